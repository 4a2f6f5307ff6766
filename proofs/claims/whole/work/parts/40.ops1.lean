/-! QUERIES, first lot: heard heardAt lost silent since many letter jar mixes others -/
set_option maxHeartbeats 200000 in
theorem q_view {X : Nat} {h h' : Hp} {j : Int} (j0 : 0 ≤ j) (j8 : j < 8) (p : On (fun b => b = X + 81 + 2 * j.toNat) h h') : QX X h h' := q_on p (fun b hb => by rw [hb]; unfold sc; omega)
set_option maxHeartbeats 200000 in
theorem CX.hear {h : Hp} {X : Nat} {c : Nat → Int} {j : Int} (H : CX h X c) (j0 : 0 ≤ j) (j8 : j < c 2) : ∃ h' S, fX11_hear h X j = some (X + 81 + 2 * j.toNat, h') ∧ On (fun b => b = X + 81 + 2 * j.toNat) h h' ∧ RVa h' (X + 81 + 2 * j.toNat) (S + 4 + 3 * (c (204 + j).toNat).toNat) (hN c j) (hL c j) ∧ SO X S ∧ gR h 717 X = some S := by
  obtain ⟨S, s1, s2, s3⟩ := H.2.2.2.1
  obtain ⟨h', e1, e2, e3⟩ := xHear H.1 s1 H.2.2.1 s2 H.wf j0 j8
  exact ⟨h', S, e1, e2, e3, s3, s1⟩
def okJ (c : Nat → Int) (a : Int) : Prop := 0 ≤ a ∧ a < c 2
def okS (c : Nat → Int) (a : Int) : Prop := 0 ≤ a ∧ a < c 1
set_option maxHeartbeats 200000 in
theorem hN_rg {c : Nat → Int} {j : Int} (w : WF c) (j0 : 0 ≤ j) (j8 : j < c 2) : 0 ≤ hN c j ∧ hN c j ≤ 12 := by
  have hj := w.nj
  have := hN_bd w j0 (show j < 8 by omega)
  omega
-- heard
set_option maxHeartbeats 200000 in
theorem xo_heard1 {h : Hp} {X : Nat} {c : Nat → Int} {a : Int} (H : CX h X c) (q : okJ c a) : XR (fX11_heard h X a) h X 0 (hN c a) := by
  have hj := H.wf.nj
  obtain ⟨h', S, e1, e2, e3, -, -⟩ := H.hear q.1 q.2
  have k : (hK h' X).1 = 11 := by rw [e2.k]; exact H.k
  unfold fX11_heard
  refine XR.of (gdg H.k (bdg (xJr1 H q.1 q.2) (iteF (by omega) (bd2g e1 (gdg e3.1 (gdg k rfl)))))) ?_
  rw [bd2_id, e3.2.1]
  exact xr_an k (q_view q.1 (by have := q.2; omega) e2)
set_option maxHeartbeats 200000 in
theorem xo_heard0 {h : Hp} {X : Nat} {c : Nat → Int} {a : Int} (H : CX h X c) (q : ¬ okJ c a) : XR (fX11_heard h X a) h X 2 (-1) := by
  unfold okJ at q
  unfold fX11_heard
  refine XR.of (gdg H.k (bdg (xJr0 H (by omega)) (iteT rfl rfl))) ?_
  rw [bd2_id]
  exact xr_re H.k (QR.rf h) (rg_lit rfl)
set_option maxHeartbeats 200000 in
theorem ro_heard1 {h : Hp} {X : Nat} {c : Nat → Int} {a : Int} (H : CM h X c) (q : okJ c a) : MR (fX12_heard h (X + 121) a) h X 0 (hN c a) := by
  obtain ⟨ms, rfl, w⟩ := H
  have hj := w.nj
  unfold fX12_heard
  refine MR.of (gdg ms.k (ltg (ltg (nng ms.r788 (gdg ms.k5 (bdg (rJr1 w q.1 q.2) (iteF (by omega) (gdg ms.k5 (bdg (rNow w q.1 (by have := q.2; omega)) rfl))))))))) ?_
  exact mr_some (m0_q h X) (m0_s h X)
set_option maxHeartbeats 200000 in
theorem ro_heard0 {h : Hp} {X : Nat} {c : Nat → Int} {a : Int} (H : CM h X c) (q : ¬ okJ c a) : MR (fX12_heard h (X + 121) a) h X 2 (-1) := by
  obtain ⟨ms, rfl, w⟩ := H
  have q' : a < 0 ∨ gA h (X + 121 + 5) 2 ≤ a := by unfold okJ at q; omega
  unfold fX12_heard
  refine MR.of (gdg ms.k (ltg (ltg (nng ms.r788 (gdg ms.k5 (bdg (rJr0 w q') (iteT rfl rfl))))))) ?_
  rw [bd2_id]
  exact mr_re ms.k (m0_q h X) (rg_lit rfl)
/-- class and reference, one behind the other, give the same status and answer -/
def OK2 (f : Hp → Option (Int × Hp)) (g : Hp → Option (Int × Hp)) (h : Hp) (X : Nat) : Prop := ∃ st r, XR (f h) h X st r ∧ ∀ h1, QX X h h1 → MR (g h1) h1 X st r
set_option maxHeartbeats 200000 in
theorem ok_heard {h : Hp} {X : Nat} {c : Nat → Int} {a : Int} (H : CX h X c) (G : CM h X c) : OK2 (fun h => fX11_heard h X a) (fun h => fX12_heard h (X + 121) a) h X := by
  by_cases q : okJ c a
  · exact ⟨0, _, xo_heard1 H q, fun h1 p => ro_heard1 (G.q p) q⟩
  · exact ⟨2, _, xo_heard0 H q, fun h1 p => ro_heard0 (G.q p) q⟩
/-! answerAt: a place in a row -/
set_option maxHeartbeats 200000 in
theorem xr_at1 {h h1 : Hp} {X a : Nat} {n : Int} {L : Int → Int} {k : Int} (kx : (hK h1 X).1 = 11) (p : QX X h h1) (r : RV h1 a n L) (q : 0 ≤ k ∧ k < n) : XR (fX11_answerAt h1 X a k) h X 0 (L k) := by
  unfold fX11_answerAt
  refine XR.of (gdg r.k (bdg (xHas1 r q.1 q.2) (iteF (by omega) (bdg (xAt r k) (gdg kx rfl))))) ?_
  rw [bd2_id]
  exact xr_an kx p
set_option maxHeartbeats 200000 in
theorem xr_at0 {h h1 : Hp} {X a : Nat} {n : Int} {L : Int → Int} {k : Int} (kx : (hK h1 X).1 = 11) (p : QX X h h1) (r : RV h1 a n L) (q : ¬ (0 ≤ k ∧ k < n)) : XR (fX11_answerAt h1 X a k) h X 8 (-1) := by
  unfold fX11_answerAt
  refine XR.of (gdg r.k (bdg (xHas0 r (by omega)) (iteT rfl (gdg kx rfl)))) ?_
  rw [bd2_id]
  exact xr_re kx p (rg_lit rfl)
set_option maxHeartbeats 200000 in
theorem nj_lt {c : Nat → Int} {a : Int} (w : WF c) (q : okJ c a) : a < 8 := by have := w.nj; have := q.2; omega
set_option maxHeartbeats 200000 in
theorem ns_lt {c : Nat → Int} {a : Int} (w : WF c) (q : okS c a) : a < 8 := by have := w.ns; have := q.2; omega
set_option maxHeartbeats 200000 in
theorem noJ {c : Nat → Int} {a : Int} (q : ¬ okJ c a) : a < 0 ∨ c 2 ≤ a := by unfold okJ at q; omega
set_option maxHeartbeats 200000 in
theorem noS {c : Nat → Int} {a : Int} (q : ¬ okS c a) : a < 0 ∨ c 1 ≤ a := by unfold okS at q; omega
set_option maxHeartbeats 200000 in
theorem mr_m0 {h : Hp} {X : Nat} {v : Int} : MR (some (v, pI (pI h 769 (X + 121) 0) 768 (X + 121) 0)) h X 0 v := mr_some (m0_q h X) (m0_s h X)
set_option maxHeartbeats 200000 in
theorem mr_m0r {h : Hp} {X : Nat} {st : Int} (ms : MS h (X + 121)) (rs : rg st) : MR (fX12_refuse (pI (pI h 769 (X + 121) 0) 768 (X + 121) 0) (X + 121) st) h X st (-1) := mr_re ms.k (m0_q h X) rs
set_option maxHeartbeats 200000 in
theorem ok_heardAt {h : Hp} {X : Nat} {c : Nat → Int} {a k : Int} (H : CX h X c) (G : CM h X c) : OK2 (fun h => fX11_heardAt h X a k) (fun h => fX12_heardAt h (X + 121) a k) h X := by
  have w := H.wf
  by_cases q : okJ c a
  · obtain ⟨h', S, e1, e2, e3, -, -⟩ := H.hear q.1 q.2
    have kx : (hK h' X).1 = 11 := by rw [e2.k]; exact H.k
    have j8 : a < 8 := nj_lt w q
    have hb := hN_bd w q.1 j8
    have qv : QX X h h' := q_view q.1 j8 e2
    have ew : WE (hN c a - 1) := we (by omega) (by omega)
    by_cases z : 0 ≤ k ∧ k < hN c a
    · refine ⟨0, hL c a k, ?_, fun h1 p => ?_⟩
      · show XR (fX11_heardAt h X a k) h X _ _
        unfold fX11_heardAt
        exact XR.of (gdg H.k (bdg (xJr1 H q.1 q.2) (iteF (by omega) (bd2g e1 (gdg kx (bd2_id _)))))) (xr_at1 kx qv e3.v z)
      · obtain ⟨ms, hc, -⟩ := G.q p
        simp only [fX12_heardAt, lt_d, hK_pI, gR_pI, gA_pI, gB_pI, gC_pI, gJ_pI, ms.r788, nn_s, ms.k0, ms.k5, gd_T, eq_self, hc, bd2_id, Int.reduceToNat]
        refine MR.of (bdg (rJr1 w q.1 q.2) (iteF (by omega) (bdg (rNow w q.1 j8) ?_))) mr_m0
        rw [ew.e]
        exact bdg (rIn1 z.1 (by omega)) (iteF (by omega) (bdg (rLet w q.1 j8 z.1 z.2) rfl))
    · refine ⟨8, -1, ?_, fun h1 p => ?_⟩
      · show XR (fX11_heardAt h X a k) h X _ _
        unfold fX11_heardAt
        exact XR.of (gdg H.k (bdg (xJr1 H q.1 q.2) (iteF (by omega) (bd2g e1 (gdg kx (bd2_id _)))))) (xr_at0 kx qv e3.v z)
      · obtain ⟨ms, hc, -⟩ := G.q p
        simp only [fX12_heardAt, lt_d, hK_pI, gR_pI, gA_pI, gB_pI, gC_pI, gJ_pI, ms.r788, nn_s, ms.k0, ms.k5, gd_T, eq_self, hc, bd2_id, Int.reduceToNat]
        refine MR.of (bdg (rJr1 w q.1 q.2) (iteF (by omega) (bdg (rNow w q.1 j8) ?_))) (mr_m0r ms (rg_lit rfl))
        rw [ew.e]
        exact bdg (rIn0 (by omega)) (iteT rfl rfl)
  · refine ⟨2, -1, ?_, fun h1 p => ?_⟩
    · show XR (fX11_heardAt h X a k) h X _ _
      unfold fX11_heardAt
      exact XR.of (gdg H.k (bdg (xJr0 H (noJ q)) (iteT rfl (bd2_id _)))) (xr_re H.k (QR.rf h) (rg_lit rfl))
    · obtain ⟨ms, hc, -⟩ := G.q p
      simp only [fX12_heardAt, lt_d, hK_pI, gR_pI, gA_pI, gB_pI, gC_pI, gJ_pI, ms.r788, nn_s, ms.k0, ms.k5, gd_T, eq_self, hc, bd2_id, Int.reduceToNat]
      exact MR.of (bdg (rJr0 w (noJ q)) (iteT rfl rfl)) (mr_m0r ms (rg_lit rfl))
