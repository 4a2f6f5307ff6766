/-! QUERIES, third lot: since many jar keeps fewest cheapest loudest (written by wip/whole/g45.py) -/
set_option maxHeartbeats 200000 in
theorem xLd1 {h : Hp} {a : Nat} {c : Nat → Int} {j m : Int} (k : (hK h a).1 = 0) (v : JV h a c j) (w : WJ c j) (m0 : 0 ≤ m) (q : fdO c j m) (y : ¬ c (148 + j).toNat = 0 ∧ ¬ m = 0) : fX0_lastDayWith h a m = some (fdS c j m + c (148 + j).toNat - 1) := by
  have b := fdS_bd w m0 q
  have h2 := w.2.1
  unfold fX0_lastDayWith
  rw [v.2.1]
  refine gdg k (bdg (xFd1 k v w m0 q) (iteF (by omega) (iteF y.1 (iteF y.2 ?_))))
  rw [w32_id (x := fdS c j m + c (148 + j).toNat) (by omega) (by omega), w32_id (by omega) (by omega)]
set_option maxHeartbeats 200000 in
theorem xLd0 {h : Hp} {a : Nat} {c : Nat → Int} {j m : Int} (k : (hK h a).1 = 0) (v : JV h a c j) (w : WJ c j) (m0 : 0 ≤ m) (q : ¬ (fdO c j m ∧ ¬ c (148 + j).toNat = 0 ∧ ¬ m = 0)) : fX0_lastDayWith h a m = some (-1) := by
  unfold fX0_lastDayWith
  rw [v.2.1]
  by_cases z : fdO c j m
  · have b := fdS_bd w m0 z
    refine gdg k (bdg (xFd1 k v w m0 z) (iteF (by omega) ?_))
    by_cases z2 : c (148 + j).toNat = 0
    · exact iteT z2 rfl
    · refine iteF z2 (iteT ?_ rfl)
      by_cases z3 : m = 0
      · exact z3
      · exact absurd ⟨z, z2, z3⟩ q
  · exact gdg k (bdg (xFd0 k v z) (iteT rfl rfl))
set_option maxHeartbeats 200000 in
theorem ok_since {h : Hp} {X : Nat} {c : Nat → Int} {a m u : Int} (H : CX h X c) (G : CM h X c) : OK2 (fun h => fX11_since h X a m u) (fun h => fX12_since h (X + 121) a m u) h X := by
  have w := H.wf
  by_cases q1 : okJ c a
  · by_cases q2 : 0 ≤ m ∧ m ≤ 12
    · by_cases q3 : 0 ≤ u ∧ u ≤ 1
      · obtain ⟨S, J, f1, f2, f3, f4, f5, f6, f7, f8, f9⟩ := H.jar q1
        have j8 : a < 8 := nj_lt w q1
        have ga : 0 ≤ a := q1.1
        have wj := w.wj q1.1 j8
        have wd := w.day
        have w1 := wj.1
        have w2 := wj.2.1
        have w6 := wj.2.2.2.2.2.2.1
        have w7 := wj.2.2.2.2.2.2.2.1
        by_cases z : fdO c a m
        · have b := fdS_bd wj q2.1 z
          have z1 := z.1
          have z2 := z.2.1
          have b4 := b
          unfold fdS at b4
          by_cases u0 : u = 0
          · refine ⟨0, fdS c a m, ?_, fun h1 p => ?_⟩
            · show XR (fX11_since h X a m u) h X _ _
              unfold fX11_since
              exact XR.of (by (have z_1 := xJr1 H q1.1 q1.2; have z_11 := xFd1 f7 f8 wj q2.1 z; (repeat' (first | (with_reducible refine ltg ?_) | ((with_reducible refine iteT ?_ ?_); omega) | ((with_reducible refine iteF ?_ ?_); omega) | ((with_reducible refine gdg ?_ ?_); first | with_reducible exact H.k | with_reducible exact z_1 | exact xIn1 q2.1 q2.2 | exact xIn1 q3.1 q3.2 | with_reducible exact f1 | with_reducible exact f2 | with_reducible exact f3 | with_reducible exact f4 | with_reducible exact f5 | with_reducible exact f6 | with_reducible exact f7 | with_reducible exact z_11 | omega) | ((with_reducible apply nng); first | with_reducible exact H.k | with_reducible exact z_1 | exact xIn1 q2.1 q2.2 | exact xIn1 q3.1 q3.2 | with_reducible exact f1 | with_reducible exact f2 | with_reducible exact f3 | with_reducible exact f4 | with_reducible exact f5 | with_reducible exact f6 | with_reducible exact f7 | with_reducible exact z_11) | ((with_reducible apply bdg); first | with_reducible exact H.k | with_reducible exact z_1 | exact xIn1 q2.1 q2.2 | exact xIn1 q3.1 q3.2 | with_reducible exact f1 | with_reducible exact f2 | with_reducible exact f3 | with_reducible exact f4 | with_reducible exact f5 | with_reducible exact f6 | with_reducible exact f7 | with_reducible exact z_11) | ((with_reducible apply bd2g); first | with_reducible exact H.k | with_reducible exact z_1 | exact xIn1 q2.1 q2.2 | exact xIn1 q3.1 q3.2 | with_reducible exact f1 | with_reducible exact f2 | with_reducible exact f3 | with_reducible exact f4 | with_reducible exact f5 | with_reducible exact f6 | with_reducible exact f7 | with_reducible exact z_11)))); exact bd2_id _) (xr_ns H.k (QR.rf h) (by omega))
            · obtain ⟨ms, hc, -⟩ := G.q p
              simp only [fX12_since, lt_d, hK_pI, gR_pI, gA_pI, gB_pI, gC_pI, gJ_pI, ms.r788, nn_s, ms.k0, ms.k5, gd_T, eq_self, hc, bd2_id, Int.reduceToNat, w32_id (x := 196 + a) (by omega) (by omega), w32_id (x := 188 + a) (by omega) (by omega), w32_id (x := 148 + a) (by omega) (by omega), fX12_since_b107, fX12_since_b123, w32_id (x := c (188 + a).toNat - m) (by omega) (by omega), w32_id (x := (c (188 + a).toNat - m) * c (148 + a).toNat) (by omega) (by omega), w32_id (x := c (196 + a).toNat + (c (188 + a).toNat - m) * c (148 + a).toNat) (by omega) (by omega)]
              unfold fdS
              have z3 := z.2.2
              refine MR.of (bdg (rJr1 w q1.1 q1.2) (iteF (by omega) (bdg (rIn1 q2.1 q2.2) (iteF (by omega) (bdg (rIn1 q3.1 q3.2) (iteF (by omega) (gdg (by omega) (gdg (by omega) (iteF z1 (iteF (by omega) (gdg (by omega) ?_))))))))))) mr_m0
              by_cases y : c (148 + a).toNat = 0
              · refine iteT y (iteF (by omega) (iteF (by omega) (iteF (by omega) ?_)))
                exact gdg (by omega) (gdg (by omega) (iteT u0 rfl))
              · refine iteF y (iteF (by omega) ?_)
                exact gdg (by omega) (gdg (by omega) (iteT u0 rfl))
          · have u1 : u = 1 := by omega
            by_cases y : ¬ c (148 + a).toNat = 0 ∧ ¬ m = 0
            · refine ⟨0, fdS c a m + c (148 + a).toNat - 1, ?_, fun h1 p => ?_⟩
              · show XR (fX11_since h X a m u) h X _ _
                unfold fX11_since
                exact XR.of (by (have z_1 := xJr1 H q1.1 q1.2; have z_11 := xLd1 f7 f8 wj q2.1 z y; (repeat' (first | (with_reducible refine ltg ?_) | ((with_reducible refine iteT ?_ ?_); omega) | ((with_reducible refine iteF ?_ ?_); omega) | ((with_reducible refine gdg ?_ ?_); first | with_reducible exact H.k | with_reducible exact z_1 | exact xIn1 q2.1 q2.2 | exact xIn1 q3.1 q3.2 | with_reducible exact f1 | with_reducible exact f2 | with_reducible exact f3 | with_reducible exact f4 | with_reducible exact f5 | with_reducible exact f6 | with_reducible exact f7 | with_reducible exact z_11 | omega) | ((with_reducible apply nng); first | with_reducible exact H.k | with_reducible exact z_1 | exact xIn1 q2.1 q2.2 | exact xIn1 q3.1 q3.2 | with_reducible exact f1 | with_reducible exact f2 | with_reducible exact f3 | with_reducible exact f4 | with_reducible exact f5 | with_reducible exact f6 | with_reducible exact f7 | with_reducible exact z_11) | ((with_reducible apply bdg); first | with_reducible exact H.k | with_reducible exact z_1 | exact xIn1 q2.1 q2.2 | exact xIn1 q3.1 q3.2 | with_reducible exact f1 | with_reducible exact f2 | with_reducible exact f3 | with_reducible exact f4 | with_reducible exact f5 | with_reducible exact f6 | with_reducible exact f7 | with_reducible exact z_11) | ((with_reducible apply bd2g); first | with_reducible exact H.k | with_reducible exact z_1 | exact xIn1 q2.1 q2.2 | exact xIn1 q3.1 q3.2 | with_reducible exact f1 | with_reducible exact f2 | with_reducible exact f3 | with_reducible exact f4 | with_reducible exact f5 | with_reducible exact f6 | with_reducible exact f7 | with_reducible exact z_11)))); exact bd2_id _) (xr_ns H.k (QR.rf h) (by omega))
              · obtain ⟨ms, hc, -⟩ := G.q p
                simp only [fX12_since, lt_d, hK_pI, gR_pI, gA_pI, gB_pI, gC_pI, gJ_pI, ms.r788, nn_s, ms.k0, ms.k5, gd_T, eq_self, hc, bd2_id, Int.reduceToNat, w32_id (x := 196 + a) (by omega) (by omega), w32_id (x := 188 + a) (by omega) (by omega), w32_id (x := 148 + a) (by omega) (by omega), fX12_since_b107, fX12_since_b123, w32_id (x := c (188 + a).toNat - m) (by omega) (by omega), w32_id (x := (c (188 + a).toNat - m) * c (148 + a).toNat) (by omega) (by omega), w32_id (x := c (196 + a).toNat + (c (188 + a).toNat - m) * c (148 + a).toNat) (by omega) (by omega), w32_id (x := c (196 + a).toNat + (c (188 + a).toNat - m) * c (148 + a).toNat + c (148 + a).toNat) (by omega) (by omega), w32_id (x := c (196 + a).toNat + (c (188 + a).toNat - m) * c (148 + a).toNat + c (148 + a).toNat - 1) (by omega) (by omega)]
                unfold fdS
                exact MR.of (bdg (rJr1 w q1.1 q1.2) (iteF (by omega) (bdg (rIn1 q2.1 q2.2) (iteF (by omega) (bdg (rIn1 q3.1 q3.2) (iteF (by omega) (gdg (by omega) (gdg (by omega) (iteF z1 (iteF (by omega) (gdg (by omega) (iteF y.1 (iteT u1 (iteF y.2 (gdg (by omega) (gdg (by omega) (iteF u0 (gdg (by omega) rfl)))))))))))))))))) mr_m0
            · refine ⟨8, -1, ?_, fun h1 p => ?_⟩
              · show XR (fX11_since h X a m u) h X _ _
                unfold fX11_since
                exact XR.of (by (have z_1 := xJr1 H q1.1 q1.2; have z_11 := xLd0 f7 f8 wj q2.1 (fun z => y z.2); (repeat' (first | (with_reducible refine ltg ?_) | ((with_reducible refine iteT ?_ ?_); omega) | ((with_reducible refine iteF ?_ ?_); omega) | ((with_reducible refine gdg ?_ ?_); first | with_reducible exact H.k | with_reducible exact z_1 | exact xIn1 q2.1 q2.2 | exact xIn1 q3.1 q3.2 | with_reducible exact f1 | with_reducible exact f2 | with_reducible exact f3 | with_reducible exact f4 | with_reducible exact f5 | with_reducible exact f6 | with_reducible exact f7 | with_reducible exact z_11 | omega) | ((with_reducible apply nng); first | with_reducible exact H.k | with_reducible exact z_1 | exact xIn1 q2.1 q2.2 | exact xIn1 q3.1 q3.2 | with_reducible exact f1 | with_reducible exact f2 | with_reducible exact f3 | with_reducible exact f4 | with_reducible exact f5 | with_reducible exact f6 | with_reducible exact f7 | with_reducible exact z_11) | ((with_reducible apply bdg); first | with_reducible exact H.k | with_reducible exact z_1 | exact xIn1 q2.1 q2.2 | exact xIn1 q3.1 q3.2 | with_reducible exact f1 | with_reducible exact f2 | with_reducible exact f3 | with_reducible exact f4 | with_reducible exact f5 | with_reducible exact f6 | with_reducible exact f7 | with_reducible exact z_11) | ((with_reducible apply bd2g); first | with_reducible exact H.k | with_reducible exact z_1 | exact xIn1 q2.1 q2.2 | exact xIn1 q3.1 q3.2 | with_reducible exact f1 | with_reducible exact f2 | with_reducible exact f3 | with_reducible exact f4 | with_reducible exact f5 | with_reducible exact f6 | with_reducible exact f7 | with_reducible exact z_11)))); exact bd2_id _) (xr_nn H.k (QR.rf h))
              · obtain ⟨ms, hc, -⟩ := G.q p
                simp only [fX12_since, lt_d, hK_pI, gR_pI, gA_pI, gB_pI, gC_pI, gJ_pI, ms.r788, nn_s, ms.k0, ms.k5, gd_T, eq_self, hc, bd2_id, Int.reduceToNat, w32_id (x := 196 + a) (by omega) (by omega), w32_id (x := 188 + a) (by omega) (by omega), w32_id (x := 148 + a) (by omega) (by omega), fX12_since_b107, w32_id (x := c (188 + a).toNat - m) (by omega) (by omega)]
                refine MR.of (bdg (rJr1 w q1.1 q1.2) (iteF (by omega) (bdg (rIn1 q2.1 q2.2) (iteF (by omega) (bdg (rIn1 q3.1 q3.2) (iteF (by omega) (gdg (by omega) (gdg (by omega) (iteF z1 (iteF (by omega) (gdg (by omega) ?_))))))))))) (mr_m0r ms (rg_lit rfl))
                by_cases y1 : c (148 + a).toNat = 0
                · refine iteT y1 ?_
                  by_cases y2 : 0 < c (188 + a).toNat - m
                  · exact iteT y2 rfl
                  · exact iteF y2 (iteT u1 rfl)
                · exact iteF y1 (iteT u1 (iteT (by omega) rfl))
        · refine ⟨8, -1, ?_, fun h1 p => ?_⟩
          · show XR (fX11_since h X a m u) h X _ _
            unfold fX11_since
            by_cases u0 : u = 0
            · exact XR.of (by (have z_1 := xJr1 H q1.1 q1.2; have z_11 := xFd0 f7 f8 z; (repeat' (first | (with_reducible refine ltg ?_) | ((with_reducible refine iteT ?_ ?_); omega) | ((with_reducible refine iteF ?_ ?_); omega) | ((with_reducible refine gdg ?_ ?_); first | with_reducible exact H.k | with_reducible exact z_1 | exact xIn1 q2.1 q2.2 | exact xIn1 q3.1 q3.2 | with_reducible exact f1 | with_reducible exact f2 | with_reducible exact f3 | with_reducible exact f4 | with_reducible exact f5 | with_reducible exact f6 | with_reducible exact f7 | with_reducible exact z_11 | omega) | ((with_reducible apply nng); first | with_reducible exact H.k | with_reducible exact z_1 | exact xIn1 q2.1 q2.2 | exact xIn1 q3.1 q3.2 | with_reducible exact f1 | with_reducible exact f2 | with_reducible exact f3 | with_reducible exact f4 | with_reducible exact f5 | with_reducible exact f6 | with_reducible exact f7 | with_reducible exact z_11) | ((with_reducible apply bdg); first | with_reducible exact H.k | with_reducible exact z_1 | exact xIn1 q2.1 q2.2 | exact xIn1 q3.1 q3.2 | with_reducible exact f1 | with_reducible exact f2 | with_reducible exact f3 | with_reducible exact f4 | with_reducible exact f5 | with_reducible exact f6 | with_reducible exact f7 | with_reducible exact z_11) | ((with_reducible apply bd2g); first | with_reducible exact H.k | with_reducible exact z_1 | exact xIn1 q2.1 q2.2 | exact xIn1 q3.1 q3.2 | with_reducible exact f1 | with_reducible exact f2 | with_reducible exact f3 | with_reducible exact f4 | with_reducible exact f5 | with_reducible exact f6 | with_reducible exact f7 | with_reducible exact z_11)))); exact bd2_id _) (xr_nn H.k (QR.rf h))
            · exact XR.of (by (have z_1 := xJr1 H q1.1 q1.2; have z_11 := xLd0 f7 f8 wj q2.1 (fun zz => z zz.1); (repeat' (first | (with_reducible refine ltg ?_) | ((with_reducible refine iteT ?_ ?_); omega) | ((with_reducible refine iteF ?_ ?_); omega) | ((with_reducible refine gdg ?_ ?_); first | with_reducible exact H.k | with_reducible exact z_1 | exact xIn1 q2.1 q2.2 | exact xIn1 q3.1 q3.2 | with_reducible exact f1 | with_reducible exact f2 | with_reducible exact f3 | with_reducible exact f4 | with_reducible exact f5 | with_reducible exact f6 | with_reducible exact f7 | with_reducible exact z_11 | omega) | ((with_reducible apply nng); first | with_reducible exact H.k | with_reducible exact z_1 | exact xIn1 q2.1 q2.2 | exact xIn1 q3.1 q3.2 | with_reducible exact f1 | with_reducible exact f2 | with_reducible exact f3 | with_reducible exact f4 | with_reducible exact f5 | with_reducible exact f6 | with_reducible exact f7 | with_reducible exact z_11) | ((with_reducible apply bdg); first | with_reducible exact H.k | with_reducible exact z_1 | exact xIn1 q2.1 q2.2 | exact xIn1 q3.1 q3.2 | with_reducible exact f1 | with_reducible exact f2 | with_reducible exact f3 | with_reducible exact f4 | with_reducible exact f5 | with_reducible exact f6 | with_reducible exact f7 | with_reducible exact z_11) | ((with_reducible apply bd2g); first | with_reducible exact H.k | with_reducible exact z_1 | exact xIn1 q2.1 q2.2 | exact xIn1 q3.1 q3.2 | with_reducible exact f1 | with_reducible exact f2 | with_reducible exact f3 | with_reducible exact f4 | with_reducible exact f5 | with_reducible exact f6 | with_reducible exact f7 | with_reducible exact z_11)))); exact bd2_id _) (xr_nn H.k (QR.rf h))
          · obtain ⟨ms, hc, -⟩ := G.q p
            unfold fdO at z
            simp only [fX12_since, lt_d, hK_pI, gR_pI, gA_pI, gB_pI, gC_pI, gJ_pI, ms.r788, nn_s, ms.k0, ms.k5, gd_T, eq_self, hc, bd2_id, Int.reduceToNat, w32_id (x := 196 + a) (by omega) (by omega), w32_id (x := 188 + a) (by omega) (by omega), w32_id (x := 148 + a) (by omega) (by omega), w32_id (x := c (188 + a).toNat - m) (by omega) (by omega)]
            refine MR.of (bdg (rJr1 w q1.1 q1.2) (iteF (by omega) (bdg (rIn1 q2.1 q2.2) (iteF (by omega) (bdg (rIn1 q3.1 q3.2) (iteF (by omega) (gdg (by omega) (gdg (by omega) ?_)))))))) (mr_m0r ms (rg_lit rfl))
            by_cases z1 : c (188 + a).toNat = 0
            · exact iteT z1 rfl
            · refine iteF z1 ?_
              by_cases z2 : c (188 + a).toNat - m < 0
              · exact iteT z2 rfl
              · exact iteF z2 (gdg (by omega) (iteT (by omega) (iteT (by omega) rfl)))
      · refine ⟨5, -1, ?_, fun h1 p => ?_⟩
        · show XR (fX11_since h X a m u) h X _ _
          unfold fX11_since
          exact XR.of (by (have z_1 := xJr1 H q1.1 q1.2; (repeat' (first | (with_reducible refine ltg ?_) | ((with_reducible refine iteT ?_ ?_); omega) | ((with_reducible refine iteF ?_ ?_); omega) | ((with_reducible refine gdg ?_ ?_); first | with_reducible exact H.k | with_reducible exact z_1 | exact xIn1 q2.1 q2.2 | exact xIn0 (by omega) | omega) | ((with_reducible apply nng); first | with_reducible exact H.k | with_reducible exact z_1 | exact xIn1 q2.1 q2.2 | exact xIn0 (by omega)) | ((with_reducible apply bdg); first | with_reducible exact H.k | with_reducible exact z_1 | exact xIn1 q2.1 q2.2 | exact xIn0 (by omega)) | ((with_reducible apply bd2g); first | with_reducible exact H.k | with_reducible exact z_1 | exact xIn1 q2.1 q2.2 | exact xIn0 (by omega))))); exact bd2_id _) (xr_re H.k (QR.rf h) (rg_lit rfl))
        · obtain ⟨ms, hc, -⟩ := G.q p
          simp only [fX12_since, lt_d, hK_pI, gR_pI, gA_pI, gB_pI, gC_pI, gJ_pI, ms.r788, nn_s, ms.k0, ms.k5, gd_T, eq_self, hc, bd2_id, Int.reduceToNat]
          exact MR.of (by (have z_0 := rJr1 w q1.1 q1.2; (repeat' (first | (with_reducible refine ltg ?_) | ((with_reducible refine iteT ?_ ?_); omega) | ((with_reducible refine iteF ?_ ?_); omega) | ((with_reducible refine gdg ?_ ?_); first | with_reducible exact z_0 | exact rIn1 q2.1 q2.2 | exact rIn0 (by omega) | omega) | ((with_reducible apply nng); first | with_reducible exact z_0 | exact rIn1 q2.1 q2.2 | exact rIn0 (by omega)) | ((with_reducible apply bdg); first | with_reducible exact z_0 | exact rIn1 q2.1 q2.2 | exact rIn0 (by omega)) | ((with_reducible apply bd2g); first | with_reducible exact z_0 | exact rIn1 q2.1 q2.2 | exact rIn0 (by omega))))); rfl) (mr_m0r ms (rg_lit rfl))
    · refine ⟨5, -1, ?_, fun h1 p => ?_⟩
      · show XR (fX11_since h X a m u) h X _ _
        unfold fX11_since
        exact XR.of (by (have z_1 := xJr1 H q1.1 q1.2; (repeat' (first | (with_reducible refine ltg ?_) | ((with_reducible refine iteT ?_ ?_); omega) | ((with_reducible refine iteF ?_ ?_); omega) | ((with_reducible refine gdg ?_ ?_); first | with_reducible exact H.k | with_reducible exact z_1 | exact xIn0 (by omega) | omega) | ((with_reducible apply nng); first | with_reducible exact H.k | with_reducible exact z_1 | exact xIn0 (by omega)) | ((with_reducible apply bdg); first | with_reducible exact H.k | with_reducible exact z_1 | exact xIn0 (by omega)) | ((with_reducible apply bd2g); first | with_reducible exact H.k | with_reducible exact z_1 | exact xIn0 (by omega))))); exact bd2_id _) (xr_re H.k (QR.rf h) (rg_lit rfl))
      · obtain ⟨ms, hc, -⟩ := G.q p
        simp only [fX12_since, lt_d, hK_pI, gR_pI, gA_pI, gB_pI, gC_pI, gJ_pI, ms.r788, nn_s, ms.k0, ms.k5, gd_T, eq_self, hc, bd2_id, Int.reduceToNat]
        exact MR.of (by (have z_0 := rJr1 w q1.1 q1.2; (repeat' (first | (with_reducible refine ltg ?_) | ((with_reducible refine iteT ?_ ?_); omega) | ((with_reducible refine iteF ?_ ?_); omega) | ((with_reducible refine gdg ?_ ?_); first | with_reducible exact z_0 | exact rIn0 (by omega) | omega) | ((with_reducible apply nng); first | with_reducible exact z_0 | exact rIn0 (by omega)) | ((with_reducible apply bdg); first | with_reducible exact z_0 | exact rIn0 (by omega)) | ((with_reducible apply bd2g); first | with_reducible exact z_0 | exact rIn0 (by omega))))); rfl) (mr_m0r ms (rg_lit rfl))
  · refine ⟨2, -1, ?_, fun h1 p => ?_⟩
    · show XR (fX11_since h X a m u) h X _ _
      unfold fX11_since
      exact XR.of (by (have z_1 := xJr0 H (noJ q1); (repeat' (first | (with_reducible refine ltg ?_) | ((with_reducible refine iteT ?_ ?_); omega) | ((with_reducible refine iteF ?_ ?_); omega) | ((with_reducible refine gdg ?_ ?_); first | with_reducible exact H.k | with_reducible exact z_1 | omega) | ((with_reducible apply nng); first | with_reducible exact H.k | with_reducible exact z_1) | ((with_reducible apply bdg); first | with_reducible exact H.k | with_reducible exact z_1) | ((with_reducible apply bd2g); first | with_reducible exact H.k | with_reducible exact z_1)))); exact bd2_id _) (xr_re H.k (QR.rf h) (rg_lit rfl))
    · obtain ⟨ms, hc, -⟩ := G.q p
      simp only [fX12_since, lt_d, hK_pI, gR_pI, gA_pI, gB_pI, gC_pI, gJ_pI, ms.r788, nn_s, ms.k0, ms.k5, gd_T, eq_self, hc, bd2_id, Int.reduceToNat]
      exact MR.of (by (have z_0 := rJr0 w (noJ q1); (repeat' (first | (with_reducible refine ltg ?_) | ((with_reducible refine iteT ?_ ?_); omega) | ((with_reducible refine iteF ?_ ?_); omega) | ((with_reducible refine gdg ?_ ?_); first | with_reducible exact z_0 | omega) | ((with_reducible apply nng); first | with_reducible exact z_0) | ((with_reducible apply bdg); first | with_reducible exact z_0) | ((with_reducible apply bd2g); first | with_reducible exact z_0)))); rfl) (mr_m0r ms (rg_lit rfl))

set_option maxHeartbeats 200000 in
theorem ok_keeps {h : Hp} {X : Nat} {c : Nat → Int} {a d : Int} (H : CX h X c) (G : CM h X c) : OK2 (fun h => fX11_keeps h X a d) (fun h => fX12_keeps h (X + 121) a d) h X := by
  have w := H.wf
  by_cases q1 : okJ c a
  · by_cases q2 : 0 ≤ d ∧ d ≤ 999
    · obtain ⟨S, J, f1, f2, f3, f4, f5, f6, f7, f8, f9⟩ := H.jar q1
      have j8 : a < 8 := nj_lt w q1
      have ga : 0 ≤ a := q1.1
      have wj := w.wj q1.1 j8
      have wd := w.day
      have w1 := wj.1
      have w2 := wj.2.1
      have w6 := wj.2.2.2.2.2.2.1
      have w7 := wj.2.2.2.2.2.2.2.1
      refine ⟨0, keepS c a d, ?_, fun h1 p => ?_⟩
      · show XR (fX11_keeps h X a d) h X _ _
        unfold fX11_keeps
        exact XR.of (by (have z_1 := xJr1 H q1.1 q1.2; (repeat' (first | (with_reducible refine ltg ?_) | ((with_reducible refine iteT ?_ ?_); omega) | ((with_reducible refine iteF ?_ ?_); omega) | ((with_reducible refine gdg ?_ ?_); first | with_reducible exact H.k | with_reducible exact z_1 | exact xIn1 q2.1 q2.2 | with_reducible exact f1 | with_reducible exact f2 | with_reducible exact f3 | with_reducible exact f4 | with_reducible exact f5 | with_reducible exact f6 | with_reducible exact f7 | exact xKeep f7 f8 wj q2.1 (by omega) | omega) | ((with_reducible apply nng); first | with_reducible exact H.k | with_reducible exact z_1 | exact xIn1 q2.1 q2.2 | with_reducible exact f1 | with_reducible exact f2 | with_reducible exact f3 | with_reducible exact f4 | with_reducible exact f5 | with_reducible exact f6 | with_reducible exact f7 | exact xKeep f7 f8 wj q2.1 (by omega)) | ((with_reducible apply bdg); first | with_reducible exact H.k | with_reducible exact z_1 | exact xIn1 q2.1 q2.2 | with_reducible exact f1 | with_reducible exact f2 | with_reducible exact f3 | with_reducible exact f4 | with_reducible exact f5 | with_reducible exact f6 | with_reducible exact f7 | exact xKeep f7 f8 wj q2.1 (by omega)) | ((with_reducible apply bd2g); first | with_reducible exact H.k | with_reducible exact z_1 | exact xIn1 q2.1 q2.2 | with_reducible exact f1 | with_reducible exact f2 | with_reducible exact f3 | with_reducible exact f4 | with_reducible exact f5 | with_reducible exact f6 | with_reducible exact f7 | exact xKeep f7 f8 wj q2.1 (by omega))))); exact bd2_id _) (xr_an H.k (QR.rf h))
      · obtain ⟨ms, hc, -⟩ := G.q p
        simp only [fX12_keeps, lt_d, hK_pI, gR_pI, gA_pI, gB_pI, gC_pI, gJ_pI, ms.r788, nn_s, ms.k0, ms.k5, gd_T, eq_self, hc, bd2_id, Int.reduceToNat]
        exact MR.of (by (have z_0 := rJr1 w q1.1 q1.2; (repeat' (first | (with_reducible refine ltg ?_) | ((with_reducible refine iteT ?_ ?_); omega) | ((with_reducible refine iteF ?_ ?_); omega) | ((with_reducible refine gdg ?_ ?_); first | with_reducible exact z_0 | exact rIn1 q2.1 q2.2 | exact rKeep wj ga j8 q2.1 (by omega) | omega) | ((with_reducible apply nng); first | with_reducible exact z_0 | exact rIn1 q2.1 q2.2 | exact rKeep wj ga j8 q2.1 (by omega)) | ((with_reducible apply bdg); first | with_reducible exact z_0 | exact rIn1 q2.1 q2.2 | exact rKeep wj ga j8 q2.1 (by omega)) | ((with_reducible apply bd2g); first | with_reducible exact z_0 | exact rIn1 q2.1 q2.2 | exact rKeep wj ga j8 q2.1 (by omega))))); rfl) mr_m0
    · refine ⟨5, -1, ?_, fun h1 p => ?_⟩
      · show XR (fX11_keeps h X a d) h X _ _
        unfold fX11_keeps
        exact XR.of (by (have z_1 := xJr1 H q1.1 q1.2; (repeat' (first | (with_reducible refine ltg ?_) | ((with_reducible refine iteT ?_ ?_); omega) | ((with_reducible refine iteF ?_ ?_); omega) | ((with_reducible refine gdg ?_ ?_); first | with_reducible exact H.k | with_reducible exact z_1 | exact xIn0 (by omega) | omega) | ((with_reducible apply nng); first | with_reducible exact H.k | with_reducible exact z_1 | exact xIn0 (by omega)) | ((with_reducible apply bdg); first | with_reducible exact H.k | with_reducible exact z_1 | exact xIn0 (by omega)) | ((with_reducible apply bd2g); first | with_reducible exact H.k | with_reducible exact z_1 | exact xIn0 (by omega))))); exact bd2_id _) (xr_re H.k (QR.rf h) (rg_lit rfl))
      · obtain ⟨ms, hc, -⟩ := G.q p
        simp only [fX12_keeps, lt_d, hK_pI, gR_pI, gA_pI, gB_pI, gC_pI, gJ_pI, ms.r788, nn_s, ms.k0, ms.k5, gd_T, eq_self, hc, bd2_id, Int.reduceToNat]
        exact MR.of (by (have z_0 := rJr1 w q1.1 q1.2; (repeat' (first | (with_reducible refine ltg ?_) | ((with_reducible refine iteT ?_ ?_); omega) | ((with_reducible refine iteF ?_ ?_); omega) | ((with_reducible refine gdg ?_ ?_); first | with_reducible exact z_0 | exact rIn0 (by omega) | omega) | ((with_reducible apply nng); first | with_reducible exact z_0 | exact rIn0 (by omega)) | ((with_reducible apply bdg); first | with_reducible exact z_0 | exact rIn0 (by omega)) | ((with_reducible apply bd2g); first | with_reducible exact z_0 | exact rIn0 (by omega))))); rfl) (mr_m0r ms (rg_lit rfl))
  · refine ⟨2, -1, ?_, fun h1 p => ?_⟩
    · show XR (fX11_keeps h X a d) h X _ _
      unfold fX11_keeps
      exact XR.of (by (have z_1 := xJr0 H (noJ q1); (repeat' (first | (with_reducible refine ltg ?_) | ((with_reducible refine iteT ?_ ?_); omega) | ((with_reducible refine iteF ?_ ?_); omega) | ((with_reducible refine gdg ?_ ?_); first | with_reducible exact H.k | with_reducible exact z_1 | omega) | ((with_reducible apply nng); first | with_reducible exact H.k | with_reducible exact z_1) | ((with_reducible apply bdg); first | with_reducible exact H.k | with_reducible exact z_1) | ((with_reducible apply bd2g); first | with_reducible exact H.k | with_reducible exact z_1)))); exact bd2_id _) (xr_re H.k (QR.rf h) (rg_lit rfl))
    · obtain ⟨ms, hc, -⟩ := G.q p
      simp only [fX12_keeps, lt_d, hK_pI, gR_pI, gA_pI, gB_pI, gC_pI, gJ_pI, ms.r788, nn_s, ms.k0, ms.k5, gd_T, eq_self, hc, bd2_id, Int.reduceToNat]
      exact MR.of (by (have z_0 := rJr0 w (noJ q1); (repeat' (first | (with_reducible refine ltg ?_) | ((with_reducible refine iteT ?_ ?_); omega) | ((with_reducible refine iteF ?_ ?_); omega) | ((with_reducible refine gdg ?_ ?_); first | with_reducible exact z_0 | omega) | ((with_reducible apply nng); first | with_reducible exact z_0) | ((with_reducible apply bdg); first | with_reducible exact z_0) | ((with_reducible apply bd2g); first | with_reducible exact z_0)))); rfl) (mr_m0r ms (rg_lit rfl))

set_option maxHeartbeats 200000 in
theorem ok_jar {h : Hp} {X : Nat} {c : Nat → Int} {a u : Int} (H : CX h X c) (G : CM h X c) : OK2 (fun h => fX11_jar h X a u) (fun h => fX12_jar h (X + 121) a u) h X := by
  have w := H.wf
  by_cases q1 : okJ c a
  · by_cases q2 : 0 ≤ u ∧ u ≤ 8
    · obtain ⟨S, J, f1, f2, f3, f4, f5, f6, f7, f8, f9⟩ := H.jar q1
      have j8 : a < 8 := nj_lt w q1
      have ga : 0 ≤ a := q1.1
      have wj := w.wj q1.1 j8
      have wd := w.day
      have w1 := wj.1
      have w2 := wj.2.1
      have w6 := wj.2.2.2.2.2.2.1
      have w7 := wj.2.2.2.2.2.2.2.1
      have e0 : fX0_isEmpty h J = some (if c (188 + a).toNat = 0 then 1 else 0) := by
        unfold fX0_isEmpty
        rw [f8.2.2.2.2.2.2.1]
        exact gdg f7 rfl
      by_cases u0 : u = 0
      · refine ⟨0, c (140 + a).toNat, ?_, fun h1 p => ?_⟩
        · have e1 : fX0_told h J u = some (c (140 + a).toNat) := by
            unfold fX0_told
            (repeat' (first | (with_reducible refine ltg ?_) | ((with_reducible refine iteT ?_ ?_); omega) | ((with_reducible refine iteF ?_ ?_); omega) | ((with_reducible refine gdg ?_ ?_); first | with_reducible exact f7 | omega) | ((with_reducible apply nng); first | with_reducible exact f7) | ((with_reducible apply bdg); first | with_reducible exact f7) | ((with_reducible apply bd2g); first | with_reducible exact f7)))
            rw [f8.1]
          show XR (fX11_jar h X a u) h X _ _
          unfold fX11_jar
          exact XR.of (by (have z_1 := xJr1 H q1.1 q1.2; (repeat' (first | (with_reducible refine ltg ?_) | ((with_reducible refine iteT ?_ ?_); omega) | ((with_reducible refine iteF ?_ ?_); omega) | ((with_reducible refine gdg ?_ ?_); first | with_reducible exact H.k | with_reducible exact z_1 | exact xIn1 q2.1 q2.2 | with_reducible exact f1 | with_reducible exact f2 | with_reducible exact f3 | with_reducible exact f4 | with_reducible exact f5 | with_reducible exact f6 | with_reducible exact f7 | with_reducible exact e1 | omega) | ((with_reducible apply nng); first | with_reducible exact H.k | with_reducible exact z_1 | exact xIn1 q2.1 q2.2 | with_reducible exact f1 | with_reducible exact f2 | with_reducible exact f3 | with_reducible exact f4 | with_reducible exact f5 | with_reducible exact f6 | with_reducible exact f7 | with_reducible exact e1) | ((with_reducible apply bdg); first | with_reducible exact H.k | with_reducible exact z_1 | exact xIn1 q2.1 q2.2 | with_reducible exact f1 | with_reducible exact f2 | with_reducible exact f3 | with_reducible exact f4 | with_reducible exact f5 | with_reducible exact f6 | with_reducible exact f7 | with_reducible exact e1) | ((with_reducible apply bd2g); first | with_reducible exact H.k | with_reducible exact z_1 | exact xIn1 q2.1 q2.2 | with_reducible exact f1 | with_reducible exact f2 | with_reducible exact f3 | with_reducible exact f4 | with_reducible exact f5 | with_reducible exact f6 | with_reducible exact f7 | with_reducible exact e1)))); exact bd2_id _) (xr_an H.k (QR.rf h))
        · obtain ⟨ms, hc, -⟩ := G.q p
          simp only [fX12_jar, lt_d, hK_pI, gR_pI, gA_pI, gB_pI, gC_pI, gJ_pI, ms.r788, nn_s, ms.k0, ms.k5, gd_T, eq_self, hc, bd2_id, Int.reduceToNat, w32_id (x := 140 + a) (by omega) (by omega), w32_id (x := 148 + a) (by omega) (by omega), w32_id (x := 156 + a) (by omega) (by omega), w32_id (x := 164 + a) (by omega) (by omega), w32_id (x := 172 + a) (by omega) (by omega), w32_id (x := 180 + a) (by omega) (by omega), w32_id (x := 188 + a) (by omega) (by omega), w32_id (x := 196 + a) (by omega) (by omega), w32_id (x := 204 + a) (by omega) (by omega)]
          exact MR.of (by (have z_0 := rJr1 w q1.1 q1.2; (repeat' (first | (with_reducible refine ltg ?_) | ((with_reducible refine iteT ?_ ?_); omega) | ((with_reducible refine iteF ?_ ?_); omega) | ((with_reducible refine gdg ?_ ?_); first | with_reducible exact z_0 | omega) | ((with_reducible apply nng); first | with_reducible exact z_0) | ((with_reducible apply bdg); first | with_reducible exact z_0) | ((with_reducible apply bd2g); first | with_reducible exact z_0)))); rfl) mr_m0
      by_cases u1 : u = 1
      · refine ⟨0, c (148 + a).toNat, ?_, fun h1 p => ?_⟩
        · have e1 : fX0_told h J u = some (c (148 + a).toNat) := by
            unfold fX0_told
            (repeat' (first | (with_reducible refine ltg ?_) | ((with_reducible refine iteT ?_ ?_); omega) | ((with_reducible refine iteF ?_ ?_); omega) | ((with_reducible refine gdg ?_ ?_); first | with_reducible exact f7 | omega) | ((with_reducible apply nng); first | with_reducible exact f7) | ((with_reducible apply bdg); first | with_reducible exact f7) | ((with_reducible apply bd2g); first | with_reducible exact f7)))
            rw [f8.2.1]
          show XR (fX11_jar h X a u) h X _ _
          unfold fX11_jar
          exact XR.of (by (have z_1 := xJr1 H q1.1 q1.2; (repeat' (first | (with_reducible refine ltg ?_) | ((with_reducible refine iteT ?_ ?_); omega) | ((with_reducible refine iteF ?_ ?_); omega) | ((with_reducible refine gdg ?_ ?_); first | with_reducible exact H.k | with_reducible exact z_1 | exact xIn1 q2.1 q2.2 | with_reducible exact f1 | with_reducible exact f2 | with_reducible exact f3 | with_reducible exact f4 | with_reducible exact f5 | with_reducible exact f6 | with_reducible exact f7 | with_reducible exact e1 | omega) | ((with_reducible apply nng); first | with_reducible exact H.k | with_reducible exact z_1 | exact xIn1 q2.1 q2.2 | with_reducible exact f1 | with_reducible exact f2 | with_reducible exact f3 | with_reducible exact f4 | with_reducible exact f5 | with_reducible exact f6 | with_reducible exact f7 | with_reducible exact e1) | ((with_reducible apply bdg); first | with_reducible exact H.k | with_reducible exact z_1 | exact xIn1 q2.1 q2.2 | with_reducible exact f1 | with_reducible exact f2 | with_reducible exact f3 | with_reducible exact f4 | with_reducible exact f5 | with_reducible exact f6 | with_reducible exact f7 | with_reducible exact e1) | ((with_reducible apply bd2g); first | with_reducible exact H.k | with_reducible exact z_1 | exact xIn1 q2.1 q2.2 | with_reducible exact f1 | with_reducible exact f2 | with_reducible exact f3 | with_reducible exact f4 | with_reducible exact f5 | with_reducible exact f6 | with_reducible exact f7 | with_reducible exact e1)))); exact bd2_id _) (xr_an H.k (QR.rf h))
        · obtain ⟨ms, hc, -⟩ := G.q p
          simp only [fX12_jar, lt_d, hK_pI, gR_pI, gA_pI, gB_pI, gC_pI, gJ_pI, ms.r788, nn_s, ms.k0, ms.k5, gd_T, eq_self, hc, bd2_id, Int.reduceToNat, w32_id (x := 140 + a) (by omega) (by omega), w32_id (x := 148 + a) (by omega) (by omega), w32_id (x := 156 + a) (by omega) (by omega), w32_id (x := 164 + a) (by omega) (by omega), w32_id (x := 172 + a) (by omega) (by omega), w32_id (x := 180 + a) (by omega) (by omega), w32_id (x := 188 + a) (by omega) (by omega), w32_id (x := 196 + a) (by omega) (by omega), w32_id (x := 204 + a) (by omega) (by omega)]
          exact MR.of (by (have z_0 := rJr1 w q1.1 q1.2; (repeat' (first | (with_reducible refine ltg ?_) | ((with_reducible refine iteT ?_ ?_); omega) | ((with_reducible refine iteF ?_ ?_); omega) | ((with_reducible refine gdg ?_ ?_); first | with_reducible exact z_0 | omega) | ((with_reducible apply nng); first | with_reducible exact z_0) | ((with_reducible apply bdg); first | with_reducible exact z_0) | ((with_reducible apply bd2g); first | with_reducible exact z_0)))); rfl) mr_m0
      by_cases u2 : u = 2
      · refine ⟨0, c (156 + a).toNat, ?_, fun h1 p => ?_⟩
        · have e1 : fX0_told h J u = some (c (156 + a).toNat) := by
            unfold fX0_told
            (repeat' (first | (with_reducible refine ltg ?_) | ((with_reducible refine iteT ?_ ?_); omega) | ((with_reducible refine iteF ?_ ?_); omega) | ((with_reducible refine gdg ?_ ?_); first | with_reducible exact f7 | omega) | ((with_reducible apply nng); first | with_reducible exact f7) | ((with_reducible apply bdg); first | with_reducible exact f7) | ((with_reducible apply bd2g); first | with_reducible exact f7)))
            rw [f8.2.2.1]
          show XR (fX11_jar h X a u) h X _ _
          unfold fX11_jar
          exact XR.of (by (have z_1 := xJr1 H q1.1 q1.2; (repeat' (first | (with_reducible refine ltg ?_) | ((with_reducible refine iteT ?_ ?_); omega) | ((with_reducible refine iteF ?_ ?_); omega) | ((with_reducible refine gdg ?_ ?_); first | with_reducible exact H.k | with_reducible exact z_1 | exact xIn1 q2.1 q2.2 | with_reducible exact f1 | with_reducible exact f2 | with_reducible exact f3 | with_reducible exact f4 | with_reducible exact f5 | with_reducible exact f6 | with_reducible exact f7 | with_reducible exact e1 | omega) | ((with_reducible apply nng); first | with_reducible exact H.k | with_reducible exact z_1 | exact xIn1 q2.1 q2.2 | with_reducible exact f1 | with_reducible exact f2 | with_reducible exact f3 | with_reducible exact f4 | with_reducible exact f5 | with_reducible exact f6 | with_reducible exact f7 | with_reducible exact e1) | ((with_reducible apply bdg); first | with_reducible exact H.k | with_reducible exact z_1 | exact xIn1 q2.1 q2.2 | with_reducible exact f1 | with_reducible exact f2 | with_reducible exact f3 | with_reducible exact f4 | with_reducible exact f5 | with_reducible exact f6 | with_reducible exact f7 | with_reducible exact e1) | ((with_reducible apply bd2g); first | with_reducible exact H.k | with_reducible exact z_1 | exact xIn1 q2.1 q2.2 | with_reducible exact f1 | with_reducible exact f2 | with_reducible exact f3 | with_reducible exact f4 | with_reducible exact f5 | with_reducible exact f6 | with_reducible exact f7 | with_reducible exact e1)))); exact bd2_id _) (xr_an H.k (QR.rf h))
        · obtain ⟨ms, hc, -⟩ := G.q p
          simp only [fX12_jar, lt_d, hK_pI, gR_pI, gA_pI, gB_pI, gC_pI, gJ_pI, ms.r788, nn_s, ms.k0, ms.k5, gd_T, eq_self, hc, bd2_id, Int.reduceToNat, w32_id (x := 140 + a) (by omega) (by omega), w32_id (x := 148 + a) (by omega) (by omega), w32_id (x := 156 + a) (by omega) (by omega), w32_id (x := 164 + a) (by omega) (by omega), w32_id (x := 172 + a) (by omega) (by omega), w32_id (x := 180 + a) (by omega) (by omega), w32_id (x := 188 + a) (by omega) (by omega), w32_id (x := 196 + a) (by omega) (by omega), w32_id (x := 204 + a) (by omega) (by omega)]
          exact MR.of (by (have z_0 := rJr1 w q1.1 q1.2; (repeat' (first | (with_reducible refine ltg ?_) | ((with_reducible refine iteT ?_ ?_); omega) | ((with_reducible refine iteF ?_ ?_); omega) | ((with_reducible refine gdg ?_ ?_); first | with_reducible exact z_0 | omega) | ((with_reducible apply nng); first | with_reducible exact z_0) | ((with_reducible apply bdg); first | with_reducible exact z_0) | ((with_reducible apply bd2g); first | with_reducible exact z_0)))); rfl) mr_m0
      by_cases u3 : u = 3
      · refine ⟨0, c (164 + a).toNat, ?_, fun h1 p => ?_⟩
        · have e1 : fX0_told h J u = some (c (164 + a).toNat) := by
            unfold fX0_told
            (repeat' (first | (with_reducible refine ltg ?_) | ((with_reducible refine iteT ?_ ?_); omega) | ((with_reducible refine iteF ?_ ?_); omega) | ((with_reducible refine gdg ?_ ?_); first | with_reducible exact f7 | omega) | ((with_reducible apply nng); first | with_reducible exact f7) | ((with_reducible apply bdg); first | with_reducible exact f7) | ((with_reducible apply bd2g); first | with_reducible exact f7)))
            rw [f8.2.2.2.1]
          show XR (fX11_jar h X a u) h X _ _
          unfold fX11_jar
          exact XR.of (by (have z_1 := xJr1 H q1.1 q1.2; (repeat' (first | (with_reducible refine ltg ?_) | ((with_reducible refine iteT ?_ ?_); omega) | ((with_reducible refine iteF ?_ ?_); omega) | ((with_reducible refine gdg ?_ ?_); first | with_reducible exact H.k | with_reducible exact z_1 | exact xIn1 q2.1 q2.2 | with_reducible exact f1 | with_reducible exact f2 | with_reducible exact f3 | with_reducible exact f4 | with_reducible exact f5 | with_reducible exact f6 | with_reducible exact f7 | with_reducible exact e1 | omega) | ((with_reducible apply nng); first | with_reducible exact H.k | with_reducible exact z_1 | exact xIn1 q2.1 q2.2 | with_reducible exact f1 | with_reducible exact f2 | with_reducible exact f3 | with_reducible exact f4 | with_reducible exact f5 | with_reducible exact f6 | with_reducible exact f7 | with_reducible exact e1) | ((with_reducible apply bdg); first | with_reducible exact H.k | with_reducible exact z_1 | exact xIn1 q2.1 q2.2 | with_reducible exact f1 | with_reducible exact f2 | with_reducible exact f3 | with_reducible exact f4 | with_reducible exact f5 | with_reducible exact f6 | with_reducible exact f7 | with_reducible exact e1) | ((with_reducible apply bd2g); first | with_reducible exact H.k | with_reducible exact z_1 | exact xIn1 q2.1 q2.2 | with_reducible exact f1 | with_reducible exact f2 | with_reducible exact f3 | with_reducible exact f4 | with_reducible exact f5 | with_reducible exact f6 | with_reducible exact f7 | with_reducible exact e1)))); exact bd2_id _) (xr_an H.k (QR.rf h))
        · obtain ⟨ms, hc, -⟩ := G.q p
          simp only [fX12_jar, lt_d, hK_pI, gR_pI, gA_pI, gB_pI, gC_pI, gJ_pI, ms.r788, nn_s, ms.k0, ms.k5, gd_T, eq_self, hc, bd2_id, Int.reduceToNat, w32_id (x := 140 + a) (by omega) (by omega), w32_id (x := 148 + a) (by omega) (by omega), w32_id (x := 156 + a) (by omega) (by omega), w32_id (x := 164 + a) (by omega) (by omega), w32_id (x := 172 + a) (by omega) (by omega), w32_id (x := 180 + a) (by omega) (by omega), w32_id (x := 188 + a) (by omega) (by omega), w32_id (x := 196 + a) (by omega) (by omega), w32_id (x := 204 + a) (by omega) (by omega)]
          exact MR.of (by (have z_0 := rJr1 w q1.1 q1.2; (repeat' (first | (with_reducible refine ltg ?_) | ((with_reducible refine iteT ?_ ?_); omega) | ((with_reducible refine iteF ?_ ?_); omega) | ((with_reducible refine gdg ?_ ?_); first | with_reducible exact z_0 | omega) | ((with_reducible apply nng); first | with_reducible exact z_0) | ((with_reducible apply bdg); first | with_reducible exact z_0) | ((with_reducible apply bd2g); first | with_reducible exact z_0)))); rfl) mr_m0
      by_cases u4 : u = 4
      · refine ⟨0, c (172 + a).toNat, ?_, fun h1 p => ?_⟩
        · have e1 : fX0_told h J u = some (c (172 + a).toNat) := by
            unfold fX0_told
            (repeat' (first | (with_reducible refine ltg ?_) | ((with_reducible refine iteT ?_ ?_); omega) | ((with_reducible refine iteF ?_ ?_); omega) | ((with_reducible refine gdg ?_ ?_); first | with_reducible exact f7 | omega) | ((with_reducible apply nng); first | with_reducible exact f7) | ((with_reducible apply bdg); first | with_reducible exact f7) | ((with_reducible apply bd2g); first | with_reducible exact f7)))
            rw [f8.2.2.2.2.1]
          show XR (fX11_jar h X a u) h X _ _
          unfold fX11_jar
          exact XR.of (by (have z_1 := xJr1 H q1.1 q1.2; (repeat' (first | (with_reducible refine ltg ?_) | ((with_reducible refine iteT ?_ ?_); omega) | ((with_reducible refine iteF ?_ ?_); omega) | ((with_reducible refine gdg ?_ ?_); first | with_reducible exact H.k | with_reducible exact z_1 | exact xIn1 q2.1 q2.2 | with_reducible exact f1 | with_reducible exact f2 | with_reducible exact f3 | with_reducible exact f4 | with_reducible exact f5 | with_reducible exact f6 | with_reducible exact f7 | with_reducible exact e1 | omega) | ((with_reducible apply nng); first | with_reducible exact H.k | with_reducible exact z_1 | exact xIn1 q2.1 q2.2 | with_reducible exact f1 | with_reducible exact f2 | with_reducible exact f3 | with_reducible exact f4 | with_reducible exact f5 | with_reducible exact f6 | with_reducible exact f7 | with_reducible exact e1) | ((with_reducible apply bdg); first | with_reducible exact H.k | with_reducible exact z_1 | exact xIn1 q2.1 q2.2 | with_reducible exact f1 | with_reducible exact f2 | with_reducible exact f3 | with_reducible exact f4 | with_reducible exact f5 | with_reducible exact f6 | with_reducible exact f7 | with_reducible exact e1) | ((with_reducible apply bd2g); first | with_reducible exact H.k | with_reducible exact z_1 | exact xIn1 q2.1 q2.2 | with_reducible exact f1 | with_reducible exact f2 | with_reducible exact f3 | with_reducible exact f4 | with_reducible exact f5 | with_reducible exact f6 | with_reducible exact f7 | with_reducible exact e1)))); exact bd2_id _) (xr_an H.k (QR.rf h))
        · obtain ⟨ms, hc, -⟩ := G.q p
          simp only [fX12_jar, lt_d, hK_pI, gR_pI, gA_pI, gB_pI, gC_pI, gJ_pI, ms.r788, nn_s, ms.k0, ms.k5, gd_T, eq_self, hc, bd2_id, Int.reduceToNat, w32_id (x := 140 + a) (by omega) (by omega), w32_id (x := 148 + a) (by omega) (by omega), w32_id (x := 156 + a) (by omega) (by omega), w32_id (x := 164 + a) (by omega) (by omega), w32_id (x := 172 + a) (by omega) (by omega), w32_id (x := 180 + a) (by omega) (by omega), w32_id (x := 188 + a) (by omega) (by omega), w32_id (x := 196 + a) (by omega) (by omega), w32_id (x := 204 + a) (by omega) (by omega)]
          exact MR.of (by (have z_0 := rJr1 w q1.1 q1.2; (repeat' (first | (with_reducible refine ltg ?_) | ((with_reducible refine iteT ?_ ?_); omega) | ((with_reducible refine iteF ?_ ?_); omega) | ((with_reducible refine gdg ?_ ?_); first | with_reducible exact z_0 | omega) | ((with_reducible apply nng); first | with_reducible exact z_0) | ((with_reducible apply bdg); first | with_reducible exact z_0) | ((with_reducible apply bd2g); first | with_reducible exact z_0)))); rfl) mr_m0
      by_cases u5 : u = 5
      · refine ⟨0, c (180 + a).toNat, ?_, fun h1 p => ?_⟩
        · have e1 : fX0_told h J u = some (c (180 + a).toNat) := by
            unfold fX0_told
            (repeat' (first | (with_reducible refine ltg ?_) | ((with_reducible refine iteT ?_ ?_); omega) | ((with_reducible refine iteF ?_ ?_); omega) | ((with_reducible refine gdg ?_ ?_); first | with_reducible exact f7 | omega) | ((with_reducible apply nng); first | with_reducible exact f7) | ((with_reducible apply bdg); first | with_reducible exact f7) | ((with_reducible apply bd2g); first | with_reducible exact f7)))
            rw [f8.2.2.2.2.2.1]
          show XR (fX11_jar h X a u) h X _ _
          unfold fX11_jar
          exact XR.of (by (have z_1 := xJr1 H q1.1 q1.2; (repeat' (first | (with_reducible refine ltg ?_) | ((with_reducible refine iteT ?_ ?_); omega) | ((with_reducible refine iteF ?_ ?_); omega) | ((with_reducible refine gdg ?_ ?_); first | with_reducible exact H.k | with_reducible exact z_1 | exact xIn1 q2.1 q2.2 | with_reducible exact f1 | with_reducible exact f2 | with_reducible exact f3 | with_reducible exact f4 | with_reducible exact f5 | with_reducible exact f6 | with_reducible exact f7 | with_reducible exact e1 | omega) | ((with_reducible apply nng); first | with_reducible exact H.k | with_reducible exact z_1 | exact xIn1 q2.1 q2.2 | with_reducible exact f1 | with_reducible exact f2 | with_reducible exact f3 | with_reducible exact f4 | with_reducible exact f5 | with_reducible exact f6 | with_reducible exact f7 | with_reducible exact e1) | ((with_reducible apply bdg); first | with_reducible exact H.k | with_reducible exact z_1 | exact xIn1 q2.1 q2.2 | with_reducible exact f1 | with_reducible exact f2 | with_reducible exact f3 | with_reducible exact f4 | with_reducible exact f5 | with_reducible exact f6 | with_reducible exact f7 | with_reducible exact e1) | ((with_reducible apply bd2g); first | with_reducible exact H.k | with_reducible exact z_1 | exact xIn1 q2.1 q2.2 | with_reducible exact f1 | with_reducible exact f2 | with_reducible exact f3 | with_reducible exact f4 | with_reducible exact f5 | with_reducible exact f6 | with_reducible exact f7 | with_reducible exact e1)))); exact bd2_id _) (xr_an H.k (QR.rf h))
        · obtain ⟨ms, hc, -⟩ := G.q p
          simp only [fX12_jar, lt_d, hK_pI, gR_pI, gA_pI, gB_pI, gC_pI, gJ_pI, ms.r788, nn_s, ms.k0, ms.k5, gd_T, eq_self, hc, bd2_id, Int.reduceToNat, w32_id (x := 140 + a) (by omega) (by omega), w32_id (x := 148 + a) (by omega) (by omega), w32_id (x := 156 + a) (by omega) (by omega), w32_id (x := 164 + a) (by omega) (by omega), w32_id (x := 172 + a) (by omega) (by omega), w32_id (x := 180 + a) (by omega) (by omega), w32_id (x := 188 + a) (by omega) (by omega), w32_id (x := 196 + a) (by omega) (by omega), w32_id (x := 204 + a) (by omega) (by omega)]
          exact MR.of (by (have z_0 := rJr1 w q1.1 q1.2; (repeat' (first | (with_reducible refine ltg ?_) | ((with_reducible refine iteT ?_ ?_); omega) | ((with_reducible refine iteF ?_ ?_); omega) | ((with_reducible refine gdg ?_ ?_); first | with_reducible exact z_0 | omega) | ((with_reducible apply nng); first | with_reducible exact z_0) | ((with_reducible apply bdg); first | with_reducible exact z_0) | ((with_reducible apply bd2g); first | with_reducible exact z_0)))); rfl) mr_m0
      by_cases u6 : u = 6
      · refine ⟨0, c (188 + a).toNat, ?_, fun h1 p => ?_⟩
        · have e1 : fX0_told h J u = some (c (188 + a).toNat) := by
            unfold fX0_told
            (repeat' (first | (with_reducible refine ltg ?_) | ((with_reducible refine iteT ?_ ?_); omega) | ((with_reducible refine iteF ?_ ?_); omega) | ((with_reducible refine gdg ?_ ?_); first | with_reducible exact f7 | omega) | ((with_reducible apply nng); first | with_reducible exact f7) | ((with_reducible apply bdg); first | with_reducible exact f7) | ((with_reducible apply bd2g); first | with_reducible exact f7)))
            rw [f8.2.2.2.2.2.2.1]
          show XR (fX11_jar h X a u) h X _ _
          unfold fX11_jar
          exact XR.of (by (have z_1 := xJr1 H q1.1 q1.2; (repeat' (first | (with_reducible refine ltg ?_) | ((with_reducible refine iteT ?_ ?_); omega) | ((with_reducible refine iteF ?_ ?_); omega) | ((with_reducible refine gdg ?_ ?_); first | with_reducible exact H.k | with_reducible exact z_1 | exact xIn1 q2.1 q2.2 | with_reducible exact f1 | with_reducible exact f2 | with_reducible exact f3 | with_reducible exact f4 | with_reducible exact f5 | with_reducible exact f6 | with_reducible exact f7 | with_reducible exact e1 | omega) | ((with_reducible apply nng); first | with_reducible exact H.k | with_reducible exact z_1 | exact xIn1 q2.1 q2.2 | with_reducible exact f1 | with_reducible exact f2 | with_reducible exact f3 | with_reducible exact f4 | with_reducible exact f5 | with_reducible exact f6 | with_reducible exact f7 | with_reducible exact e1) | ((with_reducible apply bdg); first | with_reducible exact H.k | with_reducible exact z_1 | exact xIn1 q2.1 q2.2 | with_reducible exact f1 | with_reducible exact f2 | with_reducible exact f3 | with_reducible exact f4 | with_reducible exact f5 | with_reducible exact f6 | with_reducible exact f7 | with_reducible exact e1) | ((with_reducible apply bd2g); first | with_reducible exact H.k | with_reducible exact z_1 | exact xIn1 q2.1 q2.2 | with_reducible exact f1 | with_reducible exact f2 | with_reducible exact f3 | with_reducible exact f4 | with_reducible exact f5 | with_reducible exact f6 | with_reducible exact f7 | with_reducible exact e1)))); exact bd2_id _) (xr_an H.k (QR.rf h))
        · obtain ⟨ms, hc, -⟩ := G.q p
          simp only [fX12_jar, lt_d, hK_pI, gR_pI, gA_pI, gB_pI, gC_pI, gJ_pI, ms.r788, nn_s, ms.k0, ms.k5, gd_T, eq_self, hc, bd2_id, Int.reduceToNat, w32_id (x := 140 + a) (by omega) (by omega), w32_id (x := 148 + a) (by omega) (by omega), w32_id (x := 156 + a) (by omega) (by omega), w32_id (x := 164 + a) (by omega) (by omega), w32_id (x := 172 + a) (by omega) (by omega), w32_id (x := 180 + a) (by omega) (by omega), w32_id (x := 188 + a) (by omega) (by omega), w32_id (x := 196 + a) (by omega) (by omega), w32_id (x := 204 + a) (by omega) (by omega)]
          exact MR.of (by (have z_0 := rJr1 w q1.1 q1.2; (repeat' (first | (with_reducible refine ltg ?_) | ((with_reducible refine iteT ?_ ?_); omega) | ((with_reducible refine iteF ?_ ?_); omega) | ((with_reducible refine gdg ?_ ?_); first | with_reducible exact z_0 | omega) | ((with_reducible apply nng); first | with_reducible exact z_0) | ((with_reducible apply bdg); first | with_reducible exact z_0) | ((with_reducible apply bd2g); first | with_reducible exact z_0)))); rfl) mr_m0
      by_cases u7 : u = 7
      · by_cases z : c (188 + a).toNat = 0
        · rw [if_pos z] at e0
          refine ⟨8, -1, ?_, fun h1 p => ?_⟩
          · show XR (fX11_jar h X a u) h X _ _
            unfold fX11_jar
            exact XR.of (by (have z_1 := xJr1 H q1.1 q1.2; (repeat' (first | (with_reducible refine ltg ?_) | ((with_reducible refine iteT ?_ ?_); omega) | ((with_reducible refine iteF ?_ ?_); omega) | ((with_reducible refine gdg ?_ ?_); first | with_reducible exact H.k | with_reducible exact z_1 | exact xIn1 q2.1 q2.2 | with_reducible exact f1 | with_reducible exact f2 | with_reducible exact f3 | with_reducible exact f4 | with_reducible exact f5 | with_reducible exact f6 | with_reducible exact f7 | with_reducible exact e0 | omega) | ((with_reducible apply nng); first | with_reducible exact H.k | with_reducible exact z_1 | exact xIn1 q2.1 q2.2 | with_reducible exact f1 | with_reducible exact f2 | with_reducible exact f3 | with_reducible exact f4 | with_reducible exact f5 | with_reducible exact f6 | with_reducible exact f7 | with_reducible exact e0) | ((with_reducible apply bdg); first | with_reducible exact H.k | with_reducible exact z_1 | exact xIn1 q2.1 q2.2 | with_reducible exact f1 | with_reducible exact f2 | with_reducible exact f3 | with_reducible exact f4 | with_reducible exact f5 | with_reducible exact f6 | with_reducible exact f7 | with_reducible exact e0) | ((with_reducible apply bd2g); first | with_reducible exact H.k | with_reducible exact z_1 | exact xIn1 q2.1 q2.2 | with_reducible exact f1 | with_reducible exact f2 | with_reducible exact f3 | with_reducible exact f4 | with_reducible exact f5 | with_reducible exact f6 | with_reducible exact f7 | with_reducible exact e0)))); exact bd2_id _) (xr_re H.k (QR.rf h) (rg_lit rfl))
          · obtain ⟨ms, hc, -⟩ := G.q p
            simp only [fX12_jar, lt_d, hK_pI, gR_pI, gA_pI, gB_pI, gC_pI, gJ_pI, ms.r788, nn_s, ms.k0, ms.k5, gd_T, eq_self, hc, bd2_id, Int.reduceToNat, w32_id (x := 140 + a) (by omega) (by omega), w32_id (x := 148 + a) (by omega) (by omega), w32_id (x := 156 + a) (by omega) (by omega), w32_id (x := 164 + a) (by omega) (by omega), w32_id (x := 172 + a) (by omega) (by omega), w32_id (x := 180 + a) (by omega) (by omega), w32_id (x := 188 + a) (by omega) (by omega), w32_id (x := 196 + a) (by omega) (by omega), w32_id (x := 204 + a) (by omega) (by omega)]
            exact MR.of (by (have z_0 := rJr1 w q1.1 q1.2; (repeat' (first | (with_reducible refine ltg ?_) | ((with_reducible refine iteT ?_ ?_); omega) | ((with_reducible refine iteF ?_ ?_); omega) | ((with_reducible refine gdg ?_ ?_); first | with_reducible exact z_0 | omega) | ((with_reducible apply nng); first | with_reducible exact z_0) | ((with_reducible apply bdg); first | with_reducible exact z_0) | ((with_reducible apply bd2g); first | with_reducible exact z_0)))); rfl) (mr_m0r ms (rg_lit rfl))
        · rw [if_neg z] at e0
          refine ⟨0, c (196 + a).toNat, ?_, fun h1 p => ?_⟩
          · have e1 : fX0_told h J u = some (c (196 + a).toNat) := by
              unfold fX0_told
              (repeat' (first | (with_reducible refine ltg ?_) | ((with_reducible refine iteT ?_ ?_); omega) | ((with_reducible refine iteF ?_ ?_); omega) | ((with_reducible refine gdg ?_ ?_); first | with_reducible exact f7 | omega) | ((with_reducible apply nng); first | with_reducible exact f7) | ((with_reducible apply bdg); first | with_reducible exact f7) | ((with_reducible apply bd2g); first | with_reducible exact f7)))
              rw [f8.2.2.2.2.2.2.2.1]
            show XR (fX11_jar h X a u) h X _ _
            unfold fX11_jar
            exact XR.of (by (have z_1 := xJr1 H q1.1 q1.2; (repeat' (first | (with_reducible refine ltg ?_) | ((with_reducible refine iteT ?_ ?_); omega) | ((with_reducible refine iteF ?_ ?_); omega) | ((with_reducible refine gdg ?_ ?_); first | with_reducible exact H.k | with_reducible exact z_1 | exact xIn1 q2.1 q2.2 | with_reducible exact f1 | with_reducible exact f2 | with_reducible exact f3 | with_reducible exact f4 | with_reducible exact f5 | with_reducible exact f6 | with_reducible exact f7 | with_reducible exact e0 | with_reducible exact e1 | omega) | ((with_reducible apply nng); first | with_reducible exact H.k | with_reducible exact z_1 | exact xIn1 q2.1 q2.2 | with_reducible exact f1 | with_reducible exact f2 | with_reducible exact f3 | with_reducible exact f4 | with_reducible exact f5 | with_reducible exact f6 | with_reducible exact f7 | with_reducible exact e0 | with_reducible exact e1) | ((with_reducible apply bdg); first | with_reducible exact H.k | with_reducible exact z_1 | exact xIn1 q2.1 q2.2 | with_reducible exact f1 | with_reducible exact f2 | with_reducible exact f3 | with_reducible exact f4 | with_reducible exact f5 | with_reducible exact f6 | with_reducible exact f7 | with_reducible exact e0 | with_reducible exact e1) | ((with_reducible apply bd2g); first | with_reducible exact H.k | with_reducible exact z_1 | exact xIn1 q2.1 q2.2 | with_reducible exact f1 | with_reducible exact f2 | with_reducible exact f3 | with_reducible exact f4 | with_reducible exact f5 | with_reducible exact f6 | with_reducible exact f7 | with_reducible exact e0 | with_reducible exact e1)))); exact bd2_id _) (xr_an H.k (QR.rf h))
          · obtain ⟨ms, hc, -⟩ := G.q p
            simp only [fX12_jar, lt_d, hK_pI, gR_pI, gA_pI, gB_pI, gC_pI, gJ_pI, ms.r788, nn_s, ms.k0, ms.k5, gd_T, eq_self, hc, bd2_id, Int.reduceToNat, w32_id (x := 140 + a) (by omega) (by omega), w32_id (x := 148 + a) (by omega) (by omega), w32_id (x := 156 + a) (by omega) (by omega), w32_id (x := 164 + a) (by omega) (by omega), w32_id (x := 172 + a) (by omega) (by omega), w32_id (x := 180 + a) (by omega) (by omega), w32_id (x := 188 + a) (by omega) (by omega), w32_id (x := 196 + a) (by omega) (by omega), w32_id (x := 204 + a) (by omega) (by omega)]
            exact MR.of (by (have z_0 := rJr1 w q1.1 q1.2; (repeat' (first | (with_reducible refine ltg ?_) | ((with_reducible refine iteT ?_ ?_); omega) | ((with_reducible refine iteF ?_ ?_); omega) | ((with_reducible refine gdg ?_ ?_); first | with_reducible exact z_0 | omega) | ((with_reducible apply nng); first | with_reducible exact z_0) | ((with_reducible apply bdg); first | with_reducible exact z_0) | ((with_reducible apply bd2g); first | with_reducible exact z_0)))); rfl) mr_m0
      by_cases u8 : u = 8
      · by_cases z : c (188 + a).toNat = 0
        · rw [if_pos z] at e0
          refine ⟨8, -1, ?_, fun h1 p => ?_⟩
          · show XR (fX11_jar h X a u) h X _ _
            unfold fX11_jar
            exact XR.of (by (have z_1 := xJr1 H q1.1 q1.2; (repeat' (first | (with_reducible refine ltg ?_) | ((with_reducible refine iteT ?_ ?_); omega) | ((with_reducible refine iteF ?_ ?_); omega) | ((with_reducible refine gdg ?_ ?_); first | with_reducible exact H.k | with_reducible exact z_1 | exact xIn1 q2.1 q2.2 | with_reducible exact f1 | with_reducible exact f2 | with_reducible exact f3 | with_reducible exact f4 | with_reducible exact f5 | with_reducible exact f6 | with_reducible exact f7 | with_reducible exact e0 | omega) | ((with_reducible apply nng); first | with_reducible exact H.k | with_reducible exact z_1 | exact xIn1 q2.1 q2.2 | with_reducible exact f1 | with_reducible exact f2 | with_reducible exact f3 | with_reducible exact f4 | with_reducible exact f5 | with_reducible exact f6 | with_reducible exact f7 | with_reducible exact e0) | ((with_reducible apply bdg); first | with_reducible exact H.k | with_reducible exact z_1 | exact xIn1 q2.1 q2.2 | with_reducible exact f1 | with_reducible exact f2 | with_reducible exact f3 | with_reducible exact f4 | with_reducible exact f5 | with_reducible exact f6 | with_reducible exact f7 | with_reducible exact e0) | ((with_reducible apply bd2g); first | with_reducible exact H.k | with_reducible exact z_1 | exact xIn1 q2.1 q2.2 | with_reducible exact f1 | with_reducible exact f2 | with_reducible exact f3 | with_reducible exact f4 | with_reducible exact f5 | with_reducible exact f6 | with_reducible exact f7 | with_reducible exact e0)))); exact bd2_id _) (xr_re H.k (QR.rf h) (rg_lit rfl))
          · obtain ⟨ms, hc, -⟩ := G.q p
            simp only [fX12_jar, lt_d, hK_pI, gR_pI, gA_pI, gB_pI, gC_pI, gJ_pI, ms.r788, nn_s, ms.k0, ms.k5, gd_T, eq_self, hc, bd2_id, Int.reduceToNat, w32_id (x := 140 + a) (by omega) (by omega), w32_id (x := 148 + a) (by omega) (by omega), w32_id (x := 156 + a) (by omega) (by omega), w32_id (x := 164 + a) (by omega) (by omega), w32_id (x := 172 + a) (by omega) (by omega), w32_id (x := 180 + a) (by omega) (by omega), w32_id (x := 188 + a) (by omega) (by omega), w32_id (x := 196 + a) (by omega) (by omega), w32_id (x := 204 + a) (by omega) (by omega)]
            exact MR.of (by (have z_0 := rJr1 w q1.1 q1.2; (repeat' (first | (with_reducible refine ltg ?_) | ((with_reducible refine iteT ?_ ?_); omega) | ((with_reducible refine iteF ?_ ?_); omega) | ((with_reducible refine gdg ?_ ?_); first | with_reducible exact z_0 | omega) | ((with_reducible apply nng); first | with_reducible exact z_0) | ((with_reducible apply bdg); first | with_reducible exact z_0) | ((with_reducible apply bd2g); first | with_reducible exact z_0)))); rfl) (mr_m0r ms (rg_lit rfl))
        · rw [if_neg z] at e0
          refine ⟨0, c (204 + a).toNat, ?_, fun h1 p => ?_⟩
          · have e1 : fX0_told h J u = some (c (204 + a).toNat) := by
              unfold fX0_told
              (repeat' (first | (with_reducible refine ltg ?_) | ((with_reducible refine iteT ?_ ?_); omega) | ((with_reducible refine iteF ?_ ?_); omega) | ((with_reducible refine gdg ?_ ?_); first | with_reducible exact f7 | omega) | ((with_reducible apply nng); first | with_reducible exact f7) | ((with_reducible apply bdg); first | with_reducible exact f7) | ((with_reducible apply bd2g); first | with_reducible exact f7)))
              rw [f8.2.2.2.2.2.2.2.2.1]
            show XR (fX11_jar h X a u) h X _ _
            unfold fX11_jar
            exact XR.of (by (have z_1 := xJr1 H q1.1 q1.2; (repeat' (first | (with_reducible refine ltg ?_) | ((with_reducible refine iteT ?_ ?_); omega) | ((with_reducible refine iteF ?_ ?_); omega) | ((with_reducible refine gdg ?_ ?_); first | with_reducible exact H.k | with_reducible exact z_1 | exact xIn1 q2.1 q2.2 | with_reducible exact f1 | with_reducible exact f2 | with_reducible exact f3 | with_reducible exact f4 | with_reducible exact f5 | with_reducible exact f6 | with_reducible exact f7 | with_reducible exact e0 | with_reducible exact e1 | omega) | ((with_reducible apply nng); first | with_reducible exact H.k | with_reducible exact z_1 | exact xIn1 q2.1 q2.2 | with_reducible exact f1 | with_reducible exact f2 | with_reducible exact f3 | with_reducible exact f4 | with_reducible exact f5 | with_reducible exact f6 | with_reducible exact f7 | with_reducible exact e0 | with_reducible exact e1) | ((with_reducible apply bdg); first | with_reducible exact H.k | with_reducible exact z_1 | exact xIn1 q2.1 q2.2 | with_reducible exact f1 | with_reducible exact f2 | with_reducible exact f3 | with_reducible exact f4 | with_reducible exact f5 | with_reducible exact f6 | with_reducible exact f7 | with_reducible exact e0 | with_reducible exact e1) | ((with_reducible apply bd2g); first | with_reducible exact H.k | with_reducible exact z_1 | exact xIn1 q2.1 q2.2 | with_reducible exact f1 | with_reducible exact f2 | with_reducible exact f3 | with_reducible exact f4 | with_reducible exact f5 | with_reducible exact f6 | with_reducible exact f7 | with_reducible exact e0 | with_reducible exact e1)))); exact bd2_id _) (xr_an H.k (QR.rf h))
          · obtain ⟨ms, hc, -⟩ := G.q p
            simp only [fX12_jar, lt_d, hK_pI, gR_pI, gA_pI, gB_pI, gC_pI, gJ_pI, ms.r788, nn_s, ms.k0, ms.k5, gd_T, eq_self, hc, bd2_id, Int.reduceToNat, w32_id (x := 140 + a) (by omega) (by omega), w32_id (x := 148 + a) (by omega) (by omega), w32_id (x := 156 + a) (by omega) (by omega), w32_id (x := 164 + a) (by omega) (by omega), w32_id (x := 172 + a) (by omega) (by omega), w32_id (x := 180 + a) (by omega) (by omega), w32_id (x := 188 + a) (by omega) (by omega), w32_id (x := 196 + a) (by omega) (by omega), w32_id (x := 204 + a) (by omega) (by omega)]
            exact MR.of (by (have z_0 := rJr1 w q1.1 q1.2; (repeat' (first | (with_reducible refine ltg ?_) | ((with_reducible refine iteT ?_ ?_); omega) | ((with_reducible refine iteF ?_ ?_); omega) | ((with_reducible refine gdg ?_ ?_); first | with_reducible exact z_0 | omega) | ((with_reducible apply nng); first | with_reducible exact z_0) | ((with_reducible apply bdg); first | with_reducible exact z_0) | ((with_reducible apply bd2g); first | with_reducible exact z_0)))); rfl) mr_m0
      exfalso
      omega
    · refine ⟨5, -1, ?_, fun h1 p => ?_⟩
      · show XR (fX11_jar h X a u) h X _ _
        unfold fX11_jar
        exact XR.of (by (have z_1 := xJr1 H q1.1 q1.2; (repeat' (first | (with_reducible refine ltg ?_) | ((with_reducible refine iteT ?_ ?_); omega) | ((with_reducible refine iteF ?_ ?_); omega) | ((with_reducible refine gdg ?_ ?_); first | with_reducible exact H.k | with_reducible exact z_1 | exact xIn0 (by omega) | omega) | ((with_reducible apply nng); first | with_reducible exact H.k | with_reducible exact z_1 | exact xIn0 (by omega)) | ((with_reducible apply bdg); first | with_reducible exact H.k | with_reducible exact z_1 | exact xIn0 (by omega)) | ((with_reducible apply bd2g); first | with_reducible exact H.k | with_reducible exact z_1 | exact xIn0 (by omega))))); exact bd2_id _) (xr_re H.k (QR.rf h) (rg_lit rfl))
      · obtain ⟨ms, hc, -⟩ := G.q p
        simp only [fX12_jar, lt_d, hK_pI, gR_pI, gA_pI, gB_pI, gC_pI, gJ_pI, ms.r788, nn_s, ms.k0, ms.k5, gd_T, eq_self, hc, bd2_id, Int.reduceToNat]
        exact MR.of (by (have z_0 := rJr1 w q1.1 q1.2; (repeat' (first | (with_reducible refine ltg ?_) | ((with_reducible refine iteT ?_ ?_); omega) | ((with_reducible refine iteF ?_ ?_); omega) | ((with_reducible refine gdg ?_ ?_); first | with_reducible exact z_0 | exact rIn0 (by omega) | omega) | ((with_reducible apply nng); first | with_reducible exact z_0 | exact rIn0 (by omega)) | ((with_reducible apply bdg); first | with_reducible exact z_0 | exact rIn0 (by omega)) | ((with_reducible apply bd2g); first | with_reducible exact z_0 | exact rIn0 (by omega))))); rfl) (mr_m0r ms (rg_lit rfl))
  · refine ⟨2, -1, ?_, fun h1 p => ?_⟩
    · show XR (fX11_jar h X a u) h X _ _
      unfold fX11_jar
      exact XR.of (by (have z_1 := xJr0 H (noJ q1); (repeat' (first | (with_reducible refine ltg ?_) | ((with_reducible refine iteT ?_ ?_); omega) | ((with_reducible refine iteF ?_ ?_); omega) | ((with_reducible refine gdg ?_ ?_); first | with_reducible exact H.k | with_reducible exact z_1 | omega) | ((with_reducible apply nng); first | with_reducible exact H.k | with_reducible exact z_1) | ((with_reducible apply bdg); first | with_reducible exact H.k | with_reducible exact z_1) | ((with_reducible apply bd2g); first | with_reducible exact H.k | with_reducible exact z_1)))); exact bd2_id _) (xr_re H.k (QR.rf h) (rg_lit rfl))
    · obtain ⟨ms, hc, -⟩ := G.q p
      simp only [fX12_jar, lt_d, hK_pI, gR_pI, gA_pI, gB_pI, gC_pI, gJ_pI, ms.r788, nn_s, ms.k0, ms.k5, gd_T, eq_self, hc, bd2_id, Int.reduceToNat]
      exact MR.of (by (have z_0 := rJr0 w (noJ q1); (repeat' (first | (with_reducible refine ltg ?_) | ((with_reducible refine iteT ?_ ?_); omega) | ((with_reducible refine iteF ?_ ?_); omega) | ((with_reducible refine gdg ?_ ?_); first | with_reducible exact z_0 | omega) | ((with_reducible apply nng); first | with_reducible exact z_0) | ((with_reducible apply bdg); first | with_reducible exact z_0) | ((with_reducible apply bd2g); first | with_reducible exact z_0)))); rfl) (mr_m0r ms (rg_lit rfl))

set_option maxHeartbeats 200000 in
theorem pri0 {c : Nat → Int} {s : Nat} (w : WF c) (hs : s < 2 ^ (c 2).toNat) : priS c s 0 = bcN 8 s := by
  have hj := w.nj
  show ssm (c 2).toNat s (fun j => if (0 : Int) = 0 then 1 else c (164 + (j : Int)).toNat) = _
  have e : (fun j : Nat => if (0 : Int) = 0 then (1 : Int) else c (164 + (j : Int)).toNat) = fun _ => 1 := funext fun j => if_pos rfl
  rw [e, ssm_1]
  exact (bcN_lt hs (by omega)).symm
set_option maxHeartbeats 200000 in
theorem lsS_bd {c : Nat → Int} {m d b : Int} (w : WF c) : -1 ≤ lsS c m d b ∧ lsS c m d b < (2 ^ (c 2).toNat : Nat) := lsF_bd _ _ _
set_option maxHeartbeats 200000 in
theorem lsF_s (ok : Nat → Bool) (pr : Nat → Int) (i : Nat) : lsF ok pr (i + 1) = if ok i && (decide (lsF ok pr i < 0) || decide (pr i < pr (lsF ok pr i).toNat)) then (i : Int) else lsF ok pr i := rfl
set_option maxHeartbeats 200000 in
theorem lsF_congr {ok : Nat → Bool} {p q : Nat → Int} {n : Nat} (h : ∀ i, i < n → p i = q i) : lsF ok p n = lsF ok q n := by
  induction n with
  | zero => rfl
  | succ n ih =>
    rw [lsF_s, lsF_s, ih (fun i hi => h i (by omega)), h n (by omega)]
    have b := lsF_bd ok q n
    by_cases z : lsF ok q n < 0
    · simp [z]
    · rw [h (lsF ok q n).toNat (by omega)]
set_option maxHeartbeats 200000 in
/-- the reference's loop of fewest -/
theorem rFew {h : Hp} {M : Nat} {c : Nat → Int} {a d : Int} (ms : MS h M) (hc : gA h (M + 5) = c) (w : WF c) (a0 : 0 ≤ a) (a8 : a < 8) (hd : 0 ≤ d) (hd2 : d < 1000000) :
    fX12_fewest_b47 M a d FU h (-1) 0 = if lsS c (c (4 + a).toNat) d 0 < 0 then fX12_refuse h M 9 else some (bcN 8 (lsS c (c (4 + a).toNat) d 0).toNat, h) := by
  have p := pw8 w
  have hj := w.nj
  have e0 : lsS c (c (4 + a).toNat) d 0 = lsF (lsOk c (c (4 + a).toNat) d) (bcN 8) (2 ^ (c 2).toNat) := lsF_congr (fun i hi => pri0 w hi)
  rw [e0]
  have hsh := shl_n hj.1 hj.2
  generalize 2 ^ (c 2).toNat = N at p hsh ⊢
  have := fg (S := Int) (fun fu v t => fX12_fewest_b47 M a d fu h t v) (fun t => if t < 0 then fX12_refuse h M 9 else some (t, h)) N (fun i => if lsF (lsOk c (c (4 + a).toNat) d) (bcN 8) i < 0 then -1 else bcN 8 (lsF (lsOk c (c (4 + a).toNat) d) (bcN 8) i).toNat) (by omega) ?_ ?_ 0 (by omega)
  · refine Eq.trans this ?_
    show (if (if lsF (lsOk c (c (4 + a).toNat) d) (bcN 8) N < 0 then (-1 : Int) else bcN 8 (lsF (lsOk c (c (4 + a).toNat) d) (bcN 8) N).toNat) < 0 then fX12_refuse h M 9 else some ((if lsF (lsOk c (c (4 + a).toNat) d) (bcN 8) N < 0 then (-1 : Int) else bcN 8 (lsF (lsOk c (c (4 + a).toNat) d) (bcN 8) N).toNat), h)) = _
    generalize lsF (lsOk c (c (4 + a).toNat) d) (bcN 8) N = L
    have b := bcN_bd 8 L.toNat
    by_cases z : L < 0
    · rw [if_pos z, if_pos z, if_pos (by omega)]
    · rw [if_neg z, if_neg z, if_neg (by omega)]
  · intro fu i hi
    have e5 : WE ((i : Int) + 1) := we (by omega) (by omega)
    have bi := bcN_bd 8 i
    have eu := lsF_s (lsOk c (c (4 + a).toNat) d) (bcN 8) i
    have bb := lsF_bd (lsOk c (c (4 + a).toNat) d) (bcN 8) i
    show fX12_fewest_b47 M a d (fu + 1) h (if lsF (lsOk c (c (4 + a).toNat) d) (bcN 8) i < 0 then -1 else bcN 8 (lsF (lsOk c (c (4 + a).toNat) d) (bcN 8) i).toNat) (i : Int) = fX12_fewest_b47 M a d fu h (if lsF (lsOk c (c (4 + a).toNat) d) (bcN 8) (i + 1) < 0 then -1 else bcN 8 (lsF (lsOk c (c (4 + a).toNat) d) (bcN 8) (i + 1)).toNat) _
    generalize lsF (lsOk c (c (4 + a).toNat) d) (bcN 8) i = B at eu bb ⊢
    generalize lsF (lsOk c (c (4 + a).toNat) d) (bcN 8) (i + 1) = B' at eu ⊢
    have bB := bcN_bd 8 B.toNat
    rw [fX12_fewest_b47.eq_2]
    simp only [lt_d, ms.r788, nn_s, ms.k0, ms.k5, gd_T, eq_self, hc, bd2_id, Int.reduceToNat, hsh, w32_id (x := 4 + a) (by omega) (by omega)]
    refine gdg (by omega) (iteT (by omega) (bdg (rKeptBy w (by omega) hd hd2) (gdg (by omega) ?_)))
    by_cases q2 : c (4 + a).toNat ≤ kbS c i d
    · refine iteF (by omega) ?_
      by_cases q3 : B < 0
      · have e : B' = (i : Int) := by
          rw [eu, if_pos]
          unfold lsOk
          simp [q2, q3]
        rw [if_pos q3]
        refine iteT (by omega) ?_
        rw [fX12_fewest_b91, e, if_neg (by omega)]
        refine bdg (rBits (by omega)) ?_
        rw [fX12_fewest_b97, lt_d, e5.e]
        simp
      · rw [if_neg q3]
        refine iteF (by omega) (bdg (rBits (by omega)) ?_)
        by_cases q4 : bcN 8 i < bcN 8 B.toNat
        · have e : B' = (i : Int) := by
            rw [eu, if_pos]
            unfold lsOk
            simp [q2, q4]
          refine iteT q4 ?_
          rw [fX12_fewest_b91, e, if_neg (by omega)]
          refine bdg (rBits (by omega)) ?_
          rw [fX12_fewest_b97, lt_d, e5.e]
          simp
        · have e : B' = B := by
            rw [eu, if_neg]
            simp [q3, q4]
          refine iteF q4 ?_
          rw [fX12_fewest_b97, lt_d, e5.e, e, if_neg q3]
    · have e : B' = B := by
        rw [eu, if_neg]
        unfold lsOk
        simp [q2]
      refine iteT (by omega) ?_
      rw [fX12_fewest_b97, lt_d, e5.e, e]
  · intro fu
    show fX12_fewest_b47 M a d (fu + 1) h _ (N : Int) = _
    rw [fX12_fewest_b47.eq_2]
    simp only [lt_d, ms.r788, nn_s, ms.k0, ms.k5, gd_T, eq_self, hc, bd2_id, Int.reduceToNat, hsh]
    exact gdg (by omega) (iteF (by omega) rfl)
set_option maxHeartbeats 200000 in
/-- the reference's loop of cheapest -/
theorem rChe {h : Hp} {M : Nat} {c : Nat → Int} {a d u : Int} (ms : MS h M) (hc : gA h (M + 5) = c) (w : WF c) (a0 : 0 ≤ a) (a8 : a < 8) (hd : 0 ≤ d) (hd2 : d < 1000000) :
    fX12_cheapest_b58 M a d u FU h (-1) 0 = if lsS c (c (4 + a).toNat) d 1 < 0 then fX12_refuse h M 9 else if u = 0 then some (priS c (lsS c (c (4 + a).toNat) d 1).toNat 1, h) else some (lsS c (c (4 + a).toNat) d 1, h) := by
  have p := pw8 w
  have hj := w.nj
  unfold lsS
  have hsh := shl_n hj.1 hj.2
  generalize 2 ^ (c 2).toNat = N at p hsh ⊢
  have := fg (S := Int) (fun fu v t => fX12_cheapest_b58 M a d u fu h t v) (fun t => if t < 0 then fX12_refuse h M 9 else if u = 0 then some (priS c t.toNat 1, h) else some (t, h)) N (fun i => lsF (lsOk c (c (4 + a).toNat) d) (fun s => priS c s 1) i) (by omega) ?_ ?_ 0 (by omega)
  · exact this
  · intro fu i hi
    have e5 : WE ((i : Int) + 1) := we (by omega) (by omega)
    have eu := lsF_s (lsOk c (c (4 + a).toNat) d) (fun s => priS c s 1) i
    have bb := lsF_bd (lsOk c (c (4 + a).toNat) d) (fun s => priS c s 1) i
    show fX12_cheapest_b58 M a d u (fu + 1) h (lsF (lsOk c (c (4 + a).toNat) d) (fun s => priS c s 1) i) (i : Int) = fX12_cheapest_b58 M a d u fu h (lsF (lsOk c (c (4 + a).toNat) d) (fun s => priS c s 1) (i + 1)) _
    generalize lsF (lsOk c (c (4 + a).toNat) d) (fun s => priS c s 1) i = B at eu bb ⊢
    generalize lsF (lsOk c (c (4 + a).toNat) d) (fun s => priS c s 1) (i + 1) = B' at eu ⊢
    rw [fX12_cheapest_b58.eq_2]
    simp only [lt_d, ms.r788, nn_s, ms.k0, ms.k5, gd_T, eq_self, hc, bd2_id, Int.reduceToNat, hsh, w32_id (x := 4 + a) (by omega) (by omega)]
    refine gdg (by omega) (iteT (by omega) (bdg (rKeptBy w (by omega) hd hd2) (gdg (by omega) ?_)))
    by_cases q2 : c (4 + a).toNat ≤ kbS c i d
    · refine iteF (by omega) ?_
      by_cases q3 : B < 0
      · have e : B' = (i : Int) := by
          rw [eu, if_pos]
          unfold lsOk
          simp [q2, q3]
        refine iteT q3 ?_
        rw [fX12_cheapest_b109, fX12_cheapest_b113, lt_d, e5.e, e]
      · have eB : B = ((B.toNat : Nat) : Int) := by omega
        have f2 : fX12_costOf c B = some (priS c B.toNat 1) := by
          have := rCost (s := B.toNat) w (by omega)
          rw [← eB] at this
          exact this
        refine iteF q3 (bdg (rCost w (by omega)) (bdg f2 ?_))
        by_cases q4 : priS c i 1 < priS c B.toNat 1
        · have e : B' = (i : Int) := by
            rw [eu, if_pos]
            unfold lsOk
            simp [q2, q4]
          refine iteT q4 ?_
          rw [fX12_cheapest_b109, fX12_cheapest_b113, lt_d, e5.e, e]
        · have e : B' = B := by
            rw [eu, if_neg]
            simp [q3, q4]
          refine iteF q4 ?_
          rw [fX12_cheapest_b113, lt_d, e5.e, e]
    · have e : B' = B := by
        rw [eu, if_neg]
        unfold lsOk
        simp [q2]
      refine iteT (by omega) ?_
      rw [fX12_cheapest_b113, lt_d, e5.e, e]
  · intro fu
    have bb := lsF_bd (lsOk c (c (4 + a).toNat) d) (fun s => priS c s 1) N
    show fX12_cheapest_b58 M a d u (fu + 1) h (lsF (lsOk c (c (4 + a).toNat) d) (fun s => priS c s 1) N) (N : Int) = _
    generalize lsF (lsOk c (c (4 + a).toNat) d) (fun s => priS c s 1) N = B at bb ⊢
    rw [fX12_cheapest_b58.eq_2]
    simp only [lt_d, ms.r788, nn_s, ms.k0, ms.k5, gd_T, eq_self, hc, bd2_id, Int.reduceToNat, hsh]
    refine gdg (by omega) (iteF (by omega) ?_)
    by_cases q3 : B < 0
    · refine Eq.trans ?_ (if_pos q3).symm
      exact iteT q3 rfl
    · refine Eq.trans ?_ (if_neg q3).symm
      refine iteF q3 ?_
      by_cases q4 : u = 0
      · have eB : B = ((B.toNat : Nat) : Int) := by omega
        have f2 : fX12_costOf c B = some (priS c B.toNat 1) := by
          have := rCost (s := B.toNat) w (by omega)
          rw [← eB] at this
          exact this
        refine Eq.trans ?_ (if_pos q4).symm
        exact iteT q4 (bdg f2 rfl)
      · refine Eq.trans ?_ (if_neg q4).symm
        exact iteF q4 rfl
set_option maxHeartbeats 200000 in
theorem ok_fewest {h : Hp} {X : Nat} {c : Nat → Int} {a d : Int} (H : CX h X c) (G : CM h X c) : OK2 (fun h => fX11_fewest h X a d) (fun h => fX12_fewest h (X + 121) a d) h X := by
  have w := H.wf
  by_cases q1 : okS c a
  · by_cases q2 : 0 ≤ d ∧ d ≤ 999
    · have j8 := ns_lt w q1
      have ga : 0 ≤ a := q1.1
      have ws := w.sl ga j8
      have pw := pw8 w
      obtain ⟨S, f1, f2, f3, f4, f5, f6, f7, -⟩ := H.snd q1
      have f8 : SV h S c := by
        obtain ⟨S', t1, t2, -⟩ := H.2.2.2.1
        rw [f1] at t1
        cases t1
        exact t2
      have f9 := f7.1
      have f10 : gI h 386 (S + 3 + 3 * a.toNat) = c (4 + a).toNat := f7.2.1
      have bd := lsS_bd (m := c (4 + a).toNat) (d := d) (b := 0) w
      have xl : fX7_leastSet h S (gI h 386 (S + 3 + 3 * a.toNat)) d 0 = some (lsS c (c (4 + a).toNat) d 0) := by rw [f10]; exact xLeast f8 w q2.1 (by omega)
      by_cases z : lsS c (c (4 + a).toNat) d 0 < 0
      · have z1 : lsS c (c (4 + a).toNat) d 0 = -1 := by omega
        refine ⟨9, -1, ?_, fun h1 p => ?_⟩
        · show XR (fX11_fewest h X a d) h X _ _
          unfold fX11_fewest
          exact XR.of (by (have z_1 := xSn1 H q1.1 q1.2; (repeat' (first | (with_reducible refine ltg ?_) | ((with_reducible refine iteT ?_ ?_); omega) | ((with_reducible refine iteF ?_ ?_); omega) | ((with_reducible refine gdg ?_ ?_); first | with_reducible exact H.k | with_reducible exact z_1 | exact xIn1 q2.1 q2.2 | with_reducible exact f1 | with_reducible exact f2 | with_reducible exact f3 | with_reducible exact f4 | with_reducible exact f5 | with_reducible exact f6 | with_reducible exact f9 | with_reducible exact xl | omega) | ((with_reducible apply nng); first | with_reducible exact H.k | with_reducible exact z_1 | exact xIn1 q2.1 q2.2 | with_reducible exact f1 | with_reducible exact f2 | with_reducible exact f3 | with_reducible exact f4 | with_reducible exact f5 | with_reducible exact f6 | with_reducible exact f9 | with_reducible exact xl) | ((with_reducible apply bdg); first | with_reducible exact H.k | with_reducible exact z_1 | exact xIn1 q2.1 q2.2 | with_reducible exact f1 | with_reducible exact f2 | with_reducible exact f3 | with_reducible exact f4 | with_reducible exact f5 | with_reducible exact f6 | with_reducible exact f9 | with_reducible exact xl) | ((with_reducible apply bd2g); first | with_reducible exact H.k | with_reducible exact z_1 | exact xIn1 q2.1 q2.2 | with_reducible exact f1 | with_reducible exact f2 | with_reducible exact f3 | with_reducible exact f4 | with_reducible exact f5 | with_reducible exact f6 | with_reducible exact f9 | with_reducible exact xl)))); exact bd2_id _) (xr_re H.k (QR.rf h) (rg_lit rfl))
        · obtain ⟨ms, hc, -⟩ := G.q p
          have key := rFew (h := pI (pI h1 769 (X + 121) 0) 768 (X + 121) 0) ms hc w ga j8 q2.1 (by omega)
          rw [if_pos z] at key
          simp only [fX12_fewest, lt_d, hK_pI, gR_pI, gA_pI, gB_pI, gC_pI, gJ_pI, ms.r788, nn_s, ms.k0, ms.k5, gd_T, eq_self, hc, bd2_id, Int.reduceToNat]
          exact MR.of (by (have z_0 := rSn1 w q1.1 q1.2; (repeat' (first | (with_reducible refine ltg ?_) | ((with_reducible refine iteT ?_ ?_); omega) | ((with_reducible refine iteF ?_ ?_); omega) | ((with_reducible refine gdg ?_ ?_); first | with_reducible exact z_0 | exact rIn1 q2.1 q2.2 | omega) | ((with_reducible apply nng); first | with_reducible exact z_0 | exact rIn1 q2.1 q2.2) | ((with_reducible apply bdg); first | with_reducible exact z_0 | exact rIn1 q2.1 q2.2) | ((with_reducible apply bd2g); first | with_reducible exact z_0 | exact rIn1 q2.1 q2.2)))); exact key) (mr_m0r ms (rg_lit rfl))
      · refine ⟨0, bcN 8 (lsS c (c (4 + a).toNat) d 0).toNat, ?_, fun h1 p => ?_⟩
        · have xb := xBits (s := (lsS c (c (4 + a).toNat) d 0).toNat) (by omega)
          rw [bcN_lt (n := 8) (m := 31) (by show _ < 256; omega) (by omega), show ((lsS c (c (4 + a).toNat) d 0).toNat : Int) = lsS c (c (4 + a).toNat) d 0 by omega] at xb
          show XR (fX11_fewest h X a d) h X _ _
          unfold fX11_fewest
          exact XR.of (by (have z_1 := xSn1 H q1.1 q1.2; (repeat' (first | (with_reducible refine ltg ?_) | ((with_reducible refine iteT ?_ ?_); omega) | ((with_reducible refine iteF ?_ ?_); omega) | ((with_reducible refine gdg ?_ ?_); first | with_reducible exact H.k | with_reducible exact z_1 | exact xIn1 q2.1 q2.2 | with_reducible exact f1 | with_reducible exact f2 | with_reducible exact f3 | with_reducible exact f4 | with_reducible exact f5 | with_reducible exact f6 | with_reducible exact f9 | with_reducible exact xl | with_reducible exact xb | omega) | ((with_reducible apply nng); first | with_reducible exact H.k | with_reducible exact z_1 | exact xIn1 q2.1 q2.2 | with_reducible exact f1 | with_reducible exact f2 | with_reducible exact f3 | with_reducible exact f4 | with_reducible exact f5 | with_reducible exact f6 | with_reducible exact f9 | with_reducible exact xl | with_reducible exact xb) | ((with_reducible apply bdg); first | with_reducible exact H.k | with_reducible exact z_1 | exact xIn1 q2.1 q2.2 | with_reducible exact f1 | with_reducible exact f2 | with_reducible exact f3 | with_reducible exact f4 | with_reducible exact f5 | with_reducible exact f6 | with_reducible exact f9 | with_reducible exact xl | with_reducible exact xb) | ((with_reducible apply bd2g); first | with_reducible exact H.k | with_reducible exact z_1 | exact xIn1 q2.1 q2.2 | with_reducible exact f1 | with_reducible exact f2 | with_reducible exact f3 | with_reducible exact f4 | with_reducible exact f5 | with_reducible exact f6 | with_reducible exact f9 | with_reducible exact xl | with_reducible exact xb)))); exact bd2_id _) (xr_an H.k (QR.rf h))
        · obtain ⟨ms, hc, -⟩ := G.q p
          have key := rFew (h := pI (pI h1 769 (X + 121) 0) 768 (X + 121) 0) ms hc w ga j8 q2.1 (by omega)
          rw [if_neg z] at key
          simp only [fX12_fewest, lt_d, hK_pI, gR_pI, gA_pI, gB_pI, gC_pI, gJ_pI, ms.r788, nn_s, ms.k0, ms.k5, gd_T, eq_self, hc, bd2_id, Int.reduceToNat]
          exact MR.of (by (have z_0 := rSn1 w q1.1 q1.2; (repeat' (first | (with_reducible refine ltg ?_) | ((with_reducible refine iteT ?_ ?_); omega) | ((with_reducible refine iteF ?_ ?_); omega) | ((with_reducible refine gdg ?_ ?_); first | with_reducible exact z_0 | exact rIn1 q2.1 q2.2 | omega) | ((with_reducible apply nng); first | with_reducible exact z_0 | exact rIn1 q2.1 q2.2) | ((with_reducible apply bdg); first | with_reducible exact z_0 | exact rIn1 q2.1 q2.2) | ((with_reducible apply bd2g); first | with_reducible exact z_0 | exact rIn1 q2.1 q2.2)))); exact key) mr_m0
    · refine ⟨5, -1, ?_, fun h1 p => ?_⟩
      · show XR (fX11_fewest h X a d) h X _ _
        unfold fX11_fewest
        exact XR.of (by (have z_1 := xSn1 H q1.1 q1.2; (repeat' (first | (with_reducible refine ltg ?_) | ((with_reducible refine iteT ?_ ?_); omega) | ((with_reducible refine iteF ?_ ?_); omega) | ((with_reducible refine gdg ?_ ?_); first | with_reducible exact H.k | with_reducible exact z_1 | exact xIn0 (by omega) | omega) | ((with_reducible apply nng); first | with_reducible exact H.k | with_reducible exact z_1 | exact xIn0 (by omega)) | ((with_reducible apply bdg); first | with_reducible exact H.k | with_reducible exact z_1 | exact xIn0 (by omega)) | ((with_reducible apply bd2g); first | with_reducible exact H.k | with_reducible exact z_1 | exact xIn0 (by omega))))); exact bd2_id _) (xr_re H.k (QR.rf h) (rg_lit rfl))
      · obtain ⟨ms, hc, -⟩ := G.q p
        simp only [fX12_fewest, lt_d, hK_pI, gR_pI, gA_pI, gB_pI, gC_pI, gJ_pI, ms.r788, nn_s, ms.k0, ms.k5, gd_T, eq_self, hc, bd2_id, Int.reduceToNat]
        exact MR.of (by (have z_0 := rSn1 w q1.1 q1.2; (repeat' (first | (with_reducible refine ltg ?_) | ((with_reducible refine iteT ?_ ?_); omega) | ((with_reducible refine iteF ?_ ?_); omega) | ((with_reducible refine gdg ?_ ?_); first | with_reducible exact z_0 | exact rIn0 (by omega) | omega) | ((with_reducible apply nng); first | with_reducible exact z_0 | exact rIn0 (by omega)) | ((with_reducible apply bdg); first | with_reducible exact z_0 | exact rIn0 (by omega)) | ((with_reducible apply bd2g); first | with_reducible exact z_0 | exact rIn0 (by omega))))); rfl) (mr_m0r ms (rg_lit rfl))
  · refine ⟨2, -1, ?_, fun h1 p => ?_⟩
    · show XR (fX11_fewest h X a d) h X _ _
      unfold fX11_fewest
      exact XR.of (by (have z_1 := xSn0 H (noS q1); (repeat' (first | (with_reducible refine ltg ?_) | ((with_reducible refine iteT ?_ ?_); omega) | ((with_reducible refine iteF ?_ ?_); omega) | ((with_reducible refine gdg ?_ ?_); first | with_reducible exact H.k | with_reducible exact z_1 | omega) | ((with_reducible apply nng); first | with_reducible exact H.k | with_reducible exact z_1) | ((with_reducible apply bdg); first | with_reducible exact H.k | with_reducible exact z_1) | ((with_reducible apply bd2g); first | with_reducible exact H.k | with_reducible exact z_1)))); exact bd2_id _) (xr_re H.k (QR.rf h) (rg_lit rfl))
    · obtain ⟨ms, hc, -⟩ := G.q p
      simp only [fX12_fewest, lt_d, hK_pI, gR_pI, gA_pI, gB_pI, gC_pI, gJ_pI, ms.r788, nn_s, ms.k0, ms.k5, gd_T, eq_self, hc, bd2_id, Int.reduceToNat]
      exact MR.of (by (have z_0 := rSn0 w (noS q1); (repeat' (first | (with_reducible refine ltg ?_) | ((with_reducible refine iteT ?_ ?_); omega) | ((with_reducible refine iteF ?_ ?_); omega) | ((with_reducible refine gdg ?_ ?_); first | with_reducible exact z_0 | omega) | ((with_reducible apply nng); first | with_reducible exact z_0) | ((with_reducible apply bdg); first | with_reducible exact z_0) | ((with_reducible apply bd2g); first | with_reducible exact z_0)))); rfl) (mr_m0r ms (rg_lit rfl))

set_option maxHeartbeats 200000 in
theorem ok_cheapest {h : Hp} {X : Nat} {c : Nat → Int} {a d u : Int} (H : CX h X c) (G : CM h X c) : OK2 (fun h => fX11_cheapest h X a d u) (fun h => fX12_cheapest h (X + 121) a d u) h X := by
  have w := H.wf
  by_cases q1 : okS c a
  · by_cases q2 : 0 ≤ d ∧ d ≤ 999
    · by_cases q3 : 0 ≤ u ∧ u ≤ 1
      · have j8 := ns_lt w q1
        have ga : 0 ≤ a := q1.1
        have ws := w.sl ga j8
        have pw := pw8 w
        obtain ⟨S, f1, f2, f3, f4, f5, f6, f7, -⟩ := H.snd q1
        have f8 : SV h S c := by
          obtain ⟨S', t1, t2, -⟩ := H.2.2.2.1
          rw [f1] at t1
          cases t1
          exact t2
        have f9 := f7.1
        have f10 : gI h 386 (S + 3 + 3 * a.toNat) = c (4 + a).toNat := f7.2.1
        have bd := lsS_bd (m := c (4 + a).toNat) (d := d) (b := 1) w
        have xl : fX7_leastSet h S (gI h 386 (S + 3 + 3 * a.toNat)) d 1 = some (lsS c (c (4 + a).toNat) d 1) := by rw [f10]; exact xLeast f8 w q2.1 (by omega)
        by_cases z : lsS c (c (4 + a).toNat) d 1 < 0
        · have z1 : lsS c (c (4 + a).toNat) d 1 = -1 := by omega
          refine ⟨9, -1, ?_, fun h1 p => ?_⟩
          · show XR (fX11_cheapest h X a d u) h X _ _
            unfold fX11_cheapest
            exact XR.of (by (have z_1 := xSn1 H q1.1 q1.2; (repeat' (first | (with_reducible refine ltg ?_) | ((with_reducible refine iteT ?_ ?_); omega) | ((with_reducible refine iteF ?_ ?_); omega) | ((with_reducible refine gdg ?_ ?_); first | with_reducible exact H.k | with_reducible exact z_1 | exact xIn1 q2.1 q2.2 | exact xIn1 q3.1 q3.2 | with_reducible exact f1 | with_reducible exact f2 | with_reducible exact f3 | with_reducible exact f4 | with_reducible exact f5 | with_reducible exact f6 | with_reducible exact f9 | with_reducible exact xl | omega) | ((with_reducible apply nng); first | with_reducible exact H.k | with_reducible exact z_1 | exact xIn1 q2.1 q2.2 | exact xIn1 q3.1 q3.2 | with_reducible exact f1 | with_reducible exact f2 | with_reducible exact f3 | with_reducible exact f4 | with_reducible exact f5 | with_reducible exact f6 | with_reducible exact f9 | with_reducible exact xl) | ((with_reducible apply bdg); first | with_reducible exact H.k | with_reducible exact z_1 | exact xIn1 q2.1 q2.2 | exact xIn1 q3.1 q3.2 | with_reducible exact f1 | with_reducible exact f2 | with_reducible exact f3 | with_reducible exact f4 | with_reducible exact f5 | with_reducible exact f6 | with_reducible exact f9 | with_reducible exact xl) | ((with_reducible apply bd2g); first | with_reducible exact H.k | with_reducible exact z_1 | exact xIn1 q2.1 q2.2 | exact xIn1 q3.1 q3.2 | with_reducible exact f1 | with_reducible exact f2 | with_reducible exact f3 | with_reducible exact f4 | with_reducible exact f5 | with_reducible exact f6 | with_reducible exact f9 | with_reducible exact xl)))); exact bd2_id _) (xr_re H.k (QR.rf h) (rg_lit rfl))
          · obtain ⟨ms, hc, -⟩ := G.q p
            have key := rChe (h := pI (pI h1 769 (X + 121) 0) 768 (X + 121) 0) (u := u) ms hc w ga j8 q2.1 (by omega)
            rw [if_pos z] at key
            simp only [fX12_cheapest, lt_d, hK_pI, gR_pI, gA_pI, gB_pI, gC_pI, gJ_pI, ms.r788, nn_s, ms.k0, ms.k5, gd_T, eq_self, hc, bd2_id, Int.reduceToNat]
            exact MR.of (by (have z_0 := rSn1 w q1.1 q1.2; (repeat' (first | (with_reducible refine ltg ?_) | ((with_reducible refine iteT ?_ ?_); omega) | ((with_reducible refine iteF ?_ ?_); omega) | ((with_reducible refine gdg ?_ ?_); first | with_reducible exact z_0 | exact rIn1 q2.1 q2.2 | exact rIn1 q3.1 q3.2 | omega) | ((with_reducible apply nng); first | with_reducible exact z_0 | exact rIn1 q2.1 q2.2 | exact rIn1 q3.1 q3.2) | ((with_reducible apply bdg); first | with_reducible exact z_0 | exact rIn1 q2.1 q2.2 | exact rIn1 q3.1 q3.2) | ((with_reducible apply bd2g); first | with_reducible exact z_0 | exact rIn1 q2.1 q2.2 | exact rIn1 q3.1 q3.2)))); exact key) (mr_m0r ms (rg_lit rfl))
        · by_cases u0 : u = 0
          · have eB : lsS c (c (4 + a).toNat) d 1 = (((lsS c (c (4 + a).toNat) d 1).toNat : Nat) : Int) := by omega
            have xp : fX7_priceOf h S (lsS c (c (4 + a).toNat) d 1) 1 = some (priS c (lsS c (c (4 + a).toNat) d 1).toNat 1) := by
              have := xPrice (s := (lsS c (c (4 + a).toNat) d 1).toNat) (by' := 1) f8 w (by omega)
              rw [← eB] at this
              exact this
            refine ⟨0, priS c (lsS c (c (4 + a).toNat) d 1).toNat 1, ?_, fun h1 p => ?_⟩
            · show XR (fX11_cheapest h X a d u) h X _ _
              unfold fX11_cheapest
              exact XR.of (by (have z_1 := xSn1 H q1.1 q1.2; (repeat' (first | (with_reducible refine ltg ?_) | ((with_reducible refine iteT ?_ ?_); omega) | ((with_reducible refine iteF ?_ ?_); omega) | ((with_reducible refine gdg ?_ ?_); first | with_reducible exact H.k | with_reducible exact z_1 | exact xIn1 q2.1 q2.2 | exact xIn1 q3.1 q3.2 | with_reducible exact f1 | with_reducible exact f2 | with_reducible exact f3 | with_reducible exact f4 | with_reducible exact f5 | with_reducible exact f6 | with_reducible exact f9 | with_reducible exact xl | with_reducible exact xp | omega) | ((with_reducible apply nng); first | with_reducible exact H.k | with_reducible exact z_1 | exact xIn1 q2.1 q2.2 | exact xIn1 q3.1 q3.2 | with_reducible exact f1 | with_reducible exact f2 | with_reducible exact f3 | with_reducible exact f4 | with_reducible exact f5 | with_reducible exact f6 | with_reducible exact f9 | with_reducible exact xl | with_reducible exact xp) | ((with_reducible apply bdg); first | with_reducible exact H.k | with_reducible exact z_1 | exact xIn1 q2.1 q2.2 | exact xIn1 q3.1 q3.2 | with_reducible exact f1 | with_reducible exact f2 | with_reducible exact f3 | with_reducible exact f4 | with_reducible exact f5 | with_reducible exact f6 | with_reducible exact f9 | with_reducible exact xl | with_reducible exact xp) | ((with_reducible apply bd2g); first | with_reducible exact H.k | with_reducible exact z_1 | exact xIn1 q2.1 q2.2 | exact xIn1 q3.1 q3.2 | with_reducible exact f1 | with_reducible exact f2 | with_reducible exact f3 | with_reducible exact f4 | with_reducible exact f5 | with_reducible exact f6 | with_reducible exact f9 | with_reducible exact xl | with_reducible exact xp)))); exact bd2_id _) (xr_an H.k (QR.rf h))
            · obtain ⟨ms, hc, -⟩ := G.q p
              have key := rChe (h := pI (pI h1 769 (X + 121) 0) 768 (X + 121) 0) (u := u) ms hc w ga j8 q2.1 (by omega)
              rw [if_neg z, if_pos u0] at key
              simp only [fX12_cheapest, lt_d, hK_pI, gR_pI, gA_pI, gB_pI, gC_pI, gJ_pI, ms.r788, nn_s, ms.k0, ms.k5, gd_T, eq_self, hc, bd2_id, Int.reduceToNat]
              exact MR.of (by (have z_0 := rSn1 w q1.1 q1.2; (repeat' (first | (with_reducible refine ltg ?_) | ((with_reducible refine iteT ?_ ?_); omega) | ((with_reducible refine iteF ?_ ?_); omega) | ((with_reducible refine gdg ?_ ?_); first | with_reducible exact z_0 | exact rIn1 q2.1 q2.2 | exact rIn1 q3.1 q3.2 | omega) | ((with_reducible apply nng); first | with_reducible exact z_0 | exact rIn1 q2.1 q2.2 | exact rIn1 q3.1 q3.2) | ((with_reducible apply bdg); first | with_reducible exact z_0 | exact rIn1 q2.1 q2.2 | exact rIn1 q3.1 q3.2) | ((with_reducible apply bd2g); first | with_reducible exact z_0 | exact rIn1 q2.1 q2.2 | exact rIn1 q3.1 q3.2)))); exact key) mr_m0
          · refine ⟨0, lsS c (c (4 + a).toNat) d 1, ?_, fun h1 p => ?_⟩
            · show XR (fX11_cheapest h X a d u) h X _ _
              unfold fX11_cheapest
              exact XR.of (by (have z_1 := xSn1 H q1.1 q1.2; (repeat' (first | (with_reducible refine ltg ?_) | ((with_reducible refine iteT ?_ ?_); omega) | ((with_reducible refine iteF ?_ ?_); omega) | ((with_reducible refine gdg ?_ ?_); first | with_reducible exact H.k | with_reducible exact z_1 | exact xIn1 q2.1 q2.2 | exact xIn1 q3.1 q3.2 | with_reducible exact f1 | with_reducible exact f2 | with_reducible exact f3 | with_reducible exact f4 | with_reducible exact f5 | with_reducible exact f6 | with_reducible exact f9 | with_reducible exact xl | omega) | ((with_reducible apply nng); first | with_reducible exact H.k | with_reducible exact z_1 | exact xIn1 q2.1 q2.2 | exact xIn1 q3.1 q3.2 | with_reducible exact f1 | with_reducible exact f2 | with_reducible exact f3 | with_reducible exact f4 | with_reducible exact f5 | with_reducible exact f6 | with_reducible exact f9 | with_reducible exact xl) | ((with_reducible apply bdg); first | with_reducible exact H.k | with_reducible exact z_1 | exact xIn1 q2.1 q2.2 | exact xIn1 q3.1 q3.2 | with_reducible exact f1 | with_reducible exact f2 | with_reducible exact f3 | with_reducible exact f4 | with_reducible exact f5 | with_reducible exact f6 | with_reducible exact f9 | with_reducible exact xl) | ((with_reducible apply bd2g); first | with_reducible exact H.k | with_reducible exact z_1 | exact xIn1 q2.1 q2.2 | exact xIn1 q3.1 q3.2 | with_reducible exact f1 | with_reducible exact f2 | with_reducible exact f3 | with_reducible exact f4 | with_reducible exact f5 | with_reducible exact f6 | with_reducible exact f9 | with_reducible exact xl)))); exact bd2_id _) (xr_an H.k (QR.rf h))
            · obtain ⟨ms, hc, -⟩ := G.q p
              have key := rChe (h := pI (pI h1 769 (X + 121) 0) 768 (X + 121) 0) (u := u) ms hc w ga j8 q2.1 (by omega)
              rw [if_neg z, if_neg u0] at key
              simp only [fX12_cheapest, lt_d, hK_pI, gR_pI, gA_pI, gB_pI, gC_pI, gJ_pI, ms.r788, nn_s, ms.k0, ms.k5, gd_T, eq_self, hc, bd2_id, Int.reduceToNat]
              exact MR.of (by (have z_0 := rSn1 w q1.1 q1.2; (repeat' (first | (with_reducible refine ltg ?_) | ((with_reducible refine iteT ?_ ?_); omega) | ((with_reducible refine iteF ?_ ?_); omega) | ((with_reducible refine gdg ?_ ?_); first | with_reducible exact z_0 | exact rIn1 q2.1 q2.2 | exact rIn1 q3.1 q3.2 | omega) | ((with_reducible apply nng); first | with_reducible exact z_0 | exact rIn1 q2.1 q2.2 | exact rIn1 q3.1 q3.2) | ((with_reducible apply bdg); first | with_reducible exact z_0 | exact rIn1 q2.1 q2.2 | exact rIn1 q3.1 q3.2) | ((with_reducible apply bd2g); first | with_reducible exact z_0 | exact rIn1 q2.1 q2.2 | exact rIn1 q3.1 q3.2)))); exact key) mr_m0
      · refine ⟨5, -1, ?_, fun h1 p => ?_⟩
        · show XR (fX11_cheapest h X a d u) h X _ _
          unfold fX11_cheapest
          exact XR.of (by (have z_1 := xSn1 H q1.1 q1.2; (repeat' (first | (with_reducible refine ltg ?_) | ((with_reducible refine iteT ?_ ?_); omega) | ((with_reducible refine iteF ?_ ?_); omega) | ((with_reducible refine gdg ?_ ?_); first | with_reducible exact H.k | with_reducible exact z_1 | exact xIn1 q2.1 q2.2 | exact xIn0 (by omega) | omega) | ((with_reducible apply nng); first | with_reducible exact H.k | with_reducible exact z_1 | exact xIn1 q2.1 q2.2 | exact xIn0 (by omega)) | ((with_reducible apply bdg); first | with_reducible exact H.k | with_reducible exact z_1 | exact xIn1 q2.1 q2.2 | exact xIn0 (by omega)) | ((with_reducible apply bd2g); first | with_reducible exact H.k | with_reducible exact z_1 | exact xIn1 q2.1 q2.2 | exact xIn0 (by omega))))); exact bd2_id _) (xr_re H.k (QR.rf h) (rg_lit rfl))
        · obtain ⟨ms, hc, -⟩ := G.q p
          simp only [fX12_cheapest, lt_d, hK_pI, gR_pI, gA_pI, gB_pI, gC_pI, gJ_pI, ms.r788, nn_s, ms.k0, ms.k5, gd_T, eq_self, hc, bd2_id, Int.reduceToNat]
          exact MR.of (by (have z_0 := rSn1 w q1.1 q1.2; (repeat' (first | (with_reducible refine ltg ?_) | ((with_reducible refine iteT ?_ ?_); omega) | ((with_reducible refine iteF ?_ ?_); omega) | ((with_reducible refine gdg ?_ ?_); first | with_reducible exact z_0 | exact rIn1 q2.1 q2.2 | exact rIn0 (by omega) | omega) | ((with_reducible apply nng); first | with_reducible exact z_0 | exact rIn1 q2.1 q2.2 | exact rIn0 (by omega)) | ((with_reducible apply bdg); first | with_reducible exact z_0 | exact rIn1 q2.1 q2.2 | exact rIn0 (by omega)) | ((with_reducible apply bd2g); first | with_reducible exact z_0 | exact rIn1 q2.1 q2.2 | exact rIn0 (by omega))))); rfl) (mr_m0r ms (rg_lit rfl))
    · refine ⟨5, -1, ?_, fun h1 p => ?_⟩
      · show XR (fX11_cheapest h X a d u) h X _ _
        unfold fX11_cheapest
        exact XR.of (by (have z_1 := xSn1 H q1.1 q1.2; (repeat' (first | (with_reducible refine ltg ?_) | ((with_reducible refine iteT ?_ ?_); omega) | ((with_reducible refine iteF ?_ ?_); omega) | ((with_reducible refine gdg ?_ ?_); first | with_reducible exact H.k | with_reducible exact z_1 | exact xIn0 (by omega) | omega) | ((with_reducible apply nng); first | with_reducible exact H.k | with_reducible exact z_1 | exact xIn0 (by omega)) | ((with_reducible apply bdg); first | with_reducible exact H.k | with_reducible exact z_1 | exact xIn0 (by omega)) | ((with_reducible apply bd2g); first | with_reducible exact H.k | with_reducible exact z_1 | exact xIn0 (by omega))))); exact bd2_id _) (xr_re H.k (QR.rf h) (rg_lit rfl))
      · obtain ⟨ms, hc, -⟩ := G.q p
        simp only [fX12_cheapest, lt_d, hK_pI, gR_pI, gA_pI, gB_pI, gC_pI, gJ_pI, ms.r788, nn_s, ms.k0, ms.k5, gd_T, eq_self, hc, bd2_id, Int.reduceToNat]
        exact MR.of (by (have z_0 := rSn1 w q1.1 q1.2; (repeat' (first | (with_reducible refine ltg ?_) | ((with_reducible refine iteT ?_ ?_); omega) | ((with_reducible refine iteF ?_ ?_); omega) | ((with_reducible refine gdg ?_ ?_); first | with_reducible exact z_0 | exact rIn0 (by omega) | omega) | ((with_reducible apply nng); first | with_reducible exact z_0 | exact rIn0 (by omega)) | ((with_reducible apply bdg); first | with_reducible exact z_0 | exact rIn0 (by omega)) | ((with_reducible apply bd2g); first | with_reducible exact z_0 | exact rIn0 (by omega))))); rfl) (mr_m0r ms (rg_lit rfl))
  · refine ⟨2, -1, ?_, fun h1 p => ?_⟩
    · show XR (fX11_cheapest h X a d u) h X _ _
      unfold fX11_cheapest
      exact XR.of (by (have z_1 := xSn0 H (noS q1); (repeat' (first | (with_reducible refine ltg ?_) | ((with_reducible refine iteT ?_ ?_); omega) | ((with_reducible refine iteF ?_ ?_); omega) | ((with_reducible refine gdg ?_ ?_); first | with_reducible exact H.k | with_reducible exact z_1 | omega) | ((with_reducible apply nng); first | with_reducible exact H.k | with_reducible exact z_1) | ((with_reducible apply bdg); first | with_reducible exact H.k | with_reducible exact z_1) | ((with_reducible apply bd2g); first | with_reducible exact H.k | with_reducible exact z_1)))); exact bd2_id _) (xr_re H.k (QR.rf h) (rg_lit rfl))
    · obtain ⟨ms, hc, -⟩ := G.q p
      simp only [fX12_cheapest, lt_d, hK_pI, gR_pI, gA_pI, gB_pI, gC_pI, gJ_pI, ms.r788, nn_s, ms.k0, ms.k5, gd_T, eq_self, hc, bd2_id, Int.reduceToNat]
      exact MR.of (by (have z_0 := rSn0 w (noS q1); (repeat' (first | (with_reducible refine ltg ?_) | ((with_reducible refine iteT ?_ ?_); omega) | ((with_reducible refine iteF ?_ ?_); omega) | ((with_reducible refine gdg ?_ ?_); first | with_reducible exact z_0 | omega) | ((with_reducible apply nng); first | with_reducible exact z_0) | ((with_reducible apply bdg); first | with_reducible exact z_0) | ((with_reducible apply bd2g); first | with_reducible exact z_0)))); rfl) (mr_m0r ms (rg_lit rfl))
