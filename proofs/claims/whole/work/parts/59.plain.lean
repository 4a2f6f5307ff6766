/-! STATE: the plain calls (written by wip/whole/g59.py) -/
set_option maxHeartbeats 200000 in
theorem gI_n {h : Hp} {f a f' a' : Nat} {v : Int} (n : f' ≠ f ∨ a' ≠ a) : gI (pI h f a v) f' a' = gI h f' a' := by
  rw [gI_pI, if_neg (fun e => n.elim (fun z => z e.1) (fun z => z e.2))]
set_option maxHeartbeats 200000 in
theorem gR_n {h : Hp} {f a f' a' v : Nat} (n : f' ≠ f ∨ a' ≠ a) : gR (pR h f a v) f' a' = gR h f' a' := by
  rw [gR_pR, if_neg (fun e => n.elim (fun z => z e.1) (fun z => z e.2))]
set_option maxHeartbeats 200000 in
theorem gR_s {h : Hp} {f a v : Nat} : gR (pR h f a v) f a = some v := by rw [gR_pR, if_pos ⟨rfl, rfl⟩]
set_option maxHeartbeats 200000 in
theorem gJ_n {h : Hp} {f a f' a' : Nat} {v : Int} (n : f' ≠ f ∨ a' ≠ a) : gJ (pJ h f a v) f' a' = gJ h f' a' := by
  rw [gJ_pJ, if_neg (fun e => n.elim (fun z => z e.1) (fun z => z e.2))]
set_option maxHeartbeats 200000 in
theorem inv_m {h h2 : Hp} {X : Nat} (I : Inv h X) (q : QM X h h2) (s : gI h2 768 (X + 121) = gI h 768 (X + 121)) : Inv h2 X := by
  obtain ⟨c, J, i1, i2, i3⟩ := I
  have n0 : ¬ sc X X := by unfold sc; omega
  have n1 : ¬ sc X (X + 121) := by unfold sc; omega
  refine ⟨c, J.q (fl_m q), ?_, ?_, ?_⟩
  · rw [q.i n0 (fun z => by unfold pM at z; omega), s]; exact i1
  · rw [q.j n0, q.j n1]; exact i2
  · rw [q.j n0, q.j n1]; exact i3
/-- a call that the class answers without a change -/
def OK1 (f : Hp → Option Int) (g : Hp → Option (Int × Hp)) (h : Hp) (X : Nat) : Prop := ∃ v h2, f h = some v ∧ g h = some (v, h2) ∧ Inv h2 X
set_option maxHeartbeats 200000 in
theorem ok_status {h : Hp} {X : Nat} (I : Inv h X) : OK1 (fun h => fX11_status h X) (fun h => fX12_status h (X + 121)) h X := by
  obtain ⟨c, J, i1, i2, i3⟩ := id I
  have e1 : gI (pI h 769 (X + 121) 0) 768 (X + 121) = gI h 768 (X + 121) := gI_n (by omega)
  refine ⟨gI h 721 X, pI h 769 (X + 121) 0, gdg J.x.k rfl, ?_, inv_m I (q_pI h ⟨rfl, by omega⟩) e1⟩
  show fX12_status h (X + 121) = _
  unfold fX12_status
  refine gdg J.m.1.k ?_
  rw [lt_d, e1, i1]
set_option maxHeartbeats 200000 in
theorem ok_top {h : Hp} {X : Nat} (I : Inv h X) : OK1 (fun h => fX11_top h X) (fun h => fX12_top h (X + 121)) h X := by
  obtain ⟨c, J, i1, i2, i3⟩ := id I
  have e1 : gI (pI h 769 (X + 121) 0) 768 (X + 121) = gI h 768 (X + 121) := gI_n (by omega)
  refine ⟨gJ h 722 X, pI h 769 (X + 121) 0, gdg J.x.k rfl, ?_, inv_m I (q_pI h ⟨rfl, by omega⟩) e1⟩
  show fX12_top h (X + 121) = _
  unfold fX12_top
  refine gdg J.m.1.k ?_
  rw [lt_d, gJ_pI, i2]
set_option maxHeartbeats 200000 in
theorem ok_bottom {h : Hp} {X : Nat} (I : Inv h X) : OK1 (fun h => fX11_bottom h X) (fun h => fX12_bottom h (X + 121)) h X := by
  obtain ⟨c, J, i1, i2, i3⟩ := id I
  have e1 : gI (pI h 769 (X + 121) 0) 768 (X + 121) = gI h 768 (X + 121) := gI_n (by omega)
  refine ⟨gJ h 723 X, pI h 769 (X + 121) 0, gdg J.x.k rfl, ?_, inv_m I (q_pI h ⟨rfl, by omega⟩) e1⟩
  show fX12_bottom h (X + 121) = _
  unfold fX12_bottom
  refine gdg J.m.1.k ?_
  rw [lt_d, gJ_pI, i3]
set_option maxHeartbeats 200000 in
theorem ok_fault {h : Hp} {X : Nat} {a : Int} (I : Inv h X) : OK1 (fun h => fX11_fault h X a) (fun h => fX12_fault h (X + 121) a) h X := by
  obtain ⟨c, J, i1, i2, i3⟩ := id I
  have e1 : gI (pI h 769 (X + 121) 0) 768 (X + 121) = gI h 768 (X + 121) := gI_n (by omega)
  have e2 : gI (pI h 769 (X + 121) 0) 778 (X + 121) = gI h 778 (X + 121) := gI_n (by omega)
  have e3 : gI (pI h 769 (X + 121) 0) 779 (X + 121) = gI h 779 (X + 121) := gI_n (by omega)
  have t := J.tp
  have k9 : (hK h (X + 10)).1 = 9 := by rw [J.x.1.k10]
  have iv : Inv (pI h 769 (X + 121) 0) X := inv_m I (q_pI h ⟨rfl, by omega⟩) e1
  by_cases a0 : a = 0
  · refine ⟨gI h 578 (X + 10), pI h 769 (X + 121) 0, ?_, ?_, iv⟩
    · show fX11_fault h X a = _
      unfold fX11_fault
      exact iteT a0 (gdg J.x.k (nng J.x.1.r705 (gdg k9 rfl)))
    · show fX12_fault h (X + 121) a = _
      unfold fX12_fault
      refine gdg J.m.1.k ?_
      rw [lt_d, e2, t.2.2.2.1]
      exact iteT a0 rfl
  · by_cases a1 : a = 1
    · refine ⟨gI h 579 (X + 10), pI h 769 (X + 121) 0, ?_, ?_, iv⟩
      · show fX11_fault h X a = _
        unfold fX11_fault
        exact iteF a0 (iteT a1 (gdg J.x.k (nng J.x.1.r705 (gdg k9 rfl))))
      · show fX12_fault h (X + 121) a = _
        unfold fX12_fault
        refine gdg J.m.1.k ?_
        rw [lt_d, e3, t.2.2.2.2]
        exact iteF a0 (iteT a1 rfl)
    · refine ⟨-1, pI h 769 (X + 121) 0, ?_, ?_, iv⟩
      · show fX11_fault h X a = _
        unfold fX11_fault
        exact iteF a0 (iteF a1 rfl)
      · show fX12_fault h (X + 121) a = _
        unfold fX12_fault
        refine gdg J.m.1.k ?_
        rw [lt_d]
        exact iteF a0 (iteF a1 rfl)
/-! a row that is told latest: chainAt, shelfAt, mergedAt -/
def rwL (h : Hp) (q : Nat) (n k : Int) : Int := if 0 ≤ k ∧ k < n then gA h q k.toNat else 0
set_option maxHeartbeats 200000 in
theorem rv_own {h : Hp} {a q N : Nat} {n : Int} (k6 : (hK h a).1 = 6) (r : gR h 384 a = some q) (kq : hK h q = (21, N)) (s : gI h 385 a = 0) (z : gI h 386 a = n) (n0 : 0 ≤ n) (n8 : n ≤ N) (N8 : N < 1000) : RV h a n (rwL h q n) := by
  refine ⟨k6, z, n0, by omega, fun k hk => ?_, q, r, by rw [kq], by omega, by rw [kq, s]; show 0 + n ≤ (N : Int); omega, by rw [kq]; show (N : Int) < _; omega, fun k k0 k8 => ?_⟩
  · unfold rwL; rw [if_neg (by omega)]
  · unfold rwL; rw [if_pos ⟨k0, k8⟩, s, Int.zero_add]

set_option maxHeartbeats 200000 in
theorem ok_chainAt {h : Hp} {X : Nat} {a : Int} (I : Inv h X) : OK3 (fun h => fX11_chainAt h X a) (fun h => fX12_chainAt h (X + 121) a) h X := by
  obtain ⟨c, J, i1, i2, i3⟩ := id I
  have H := J.x
  have G := J.m
  have cn := J.cn
  have b9 := cn.1
  have kh : (hK h (X + 113)).1 = 5 := by rw [H.1.k113]
  have k6 : (hK h (X + 117)).1 = 6 := by rw [H.1.k117]
  have rv := rv_own k6 H.1.r384_117 H.1.k118 H.1.2.2.2.2.2.1 cn.2.1 cn.1.1 cn.1.2 (by omega)
  by_cases z : 0 ≤ a ∧ a < gI h 800 (X + 121)
  · refine ok3 I J ⟨0, gA h (X + 118) a.toNat, ?_, fun h1 p => ?_⟩
    · show XR (fX11_chainAt h X a) h X _ _
      unfold fX11_chainAt
      have := xr_at1 H.k (QR.rf h) rv z
      unfold rwL at this
      rw [if_pos z] at this
      exact XR.of (gdg H.k (nng H.1.r716 (gdg kh (nng H.1.r323 (bd2_id _))))) this
    · have J1 := J.q (fl_q p)
      obtain ⟨ms, hc, -⟩ := G.q p
      have n1 : ¬ sc X (X + 121) := by unfold sc; omega
      have n2 : ¬ sc X (X + 118) := by unfold sc; omega
      have e8 : gI (pI (pI h1 769 (X + 121) 0) 768 (X + 121) 0) 800 (X + 121) = gI h 800 (X + 121) := by rw [gI_n (by omega), gI_n (by omega)]; exact p.i n1 (fun y => by unfold pX at y; omega)
      have e9 := (J1.cn.2.2 a.toNat (by rw [p.i n1 (fun y => by unfold pX at y; omega)]; omega))
      rw [p.a n2] at e9
      have ew : WE (gI h 800 (X + 121) - 1) := we (by omega) (by omega)
      simp only [fX12_chainAt, lt_d, hK_pI, gR_pI, gA_pI, gB_pI, gC_pI, gJ_pI, ms.r788, nn_s, ms.k0, ms.k5, gd_T, eq_self, hc, bd2_id, Int.reduceToNat]
      rw [e8, ew.e, e9]
      exact MR.of (bdg (rIn1 z.1 (by omega)) (iteF (by omega) (nng ms.r798 (gdg (by rw [ms.k13]) (gdg (by rw [ms.k13]; show 0 ≤ _ ∧ _ < (8 : Int); omega) rfl))))) mr_m0
  · refine ok3 I J ⟨8, -1, ?_, fun h1 p => ?_⟩
    · show XR (fX11_chainAt h X a) h X _ _
      unfold fX11_chainAt
      exact XR.of (gdg H.k (nng H.1.r716 (gdg kh (nng H.1.r323 (bd2_id _))))) (xr_at0 H.k (QR.rf h) rv z)
    · obtain ⟨ms, hc, -⟩ := G.q p
      have n1 : ¬ sc X (X + 121) := by unfold sc; omega
      have e8 : gI (pI (pI h1 769 (X + 121) 0) 768 (X + 121) 0) 800 (X + 121) = gI h 800 (X + 121) := by rw [gI_n (by omega), gI_n (by omega)]; exact p.i n1 (fun y => by unfold pX at y; omega)
      have ew : WE (gI h 800 (X + 121) - 1) := we (by omega) (by omega)
      simp only [fX12_chainAt, lt_d, hK_pI, gR_pI, gA_pI, gB_pI, gC_pI, gJ_pI, ms.r788, nn_s, ms.k0, ms.k5, gd_T, eq_self, hc, bd2_id, Int.reduceToNat]
      rw [e8, ew.e]
      exact MR.of (bdg (rIn0 (by omega)) (iteT rfl rfl)) (mr_m0r ms (rg_lit rfl))

set_option maxHeartbeats 200000 in
theorem ok_shelfAt {h : Hp} {X : Nat} {a : Int} (I : Inv h X) : OK3 (fun h => fX11_shelfAt h X a) (fun h => fX12_shelfAt h (X + 121) a) h X := by
  obtain ⟨c, J, i1, i2, i3⟩ := id I
  have H := J.x
  have G := J.m
  have cn := J.sf
  have b9 := cn.1
  have kh : (hK h (X + 113)).1 = 5 := by rw [H.1.k113]
  have k6 : (hK h (X + 119)).1 = 6 := by rw [H.1.k119]
  have rv := rv_own k6 H.1.r384_119 H.1.k120 H.1.2.2.2.2.2.2 cn.2.1 cn.1.1 cn.1.2 (by omega)
  by_cases z : 0 ≤ a ∧ a < gI h 809 (X + 121)
  · refine ok3 I J ⟨0, gA h (X + 120) a.toNat, ?_, fun h1 p => ?_⟩
    · show XR (fX11_shelfAt h X a) h X _ _
      unfold fX11_shelfAt
      have := xr_at1 H.k (QR.rf h) rv z
      unfold rwL at this
      rw [if_pos z] at this
      exact XR.of (gdg H.k (nng H.1.r716 (gdg kh (nng H.1.r324 (bd2_id _))))) this
    · have J1 := J.q (fl_q p)
      obtain ⟨ms, hc, -⟩ := G.q p
      have n1 : ¬ sc X (X + 121) := by unfold sc; omega
      have n2 : ¬ sc X (X + 120) := by unfold sc; omega
      have e8 : gI (pI (pI h1 769 (X + 121) 0) 768 (X + 121) 0) 809 (X + 121) = gI h 809 (X + 121) := by rw [gI_n (by omega), gI_n (by omega)]; exact p.i n1 (fun y => by unfold pX at y; omega)
      have e9 := (J1.sf.2.2 a.toNat (by rw [p.i n1 (fun y => by unfold pX at y; omega)]; omega))
      rw [p.a n2] at e9
      have ew : WE (gI h 809 (X + 121) - 1) := we (by omega) (by omega)
      simp only [fX12_shelfAt, lt_d, hK_pI, gR_pI, gA_pI, gB_pI, gC_pI, gJ_pI, ms.r788, nn_s, ms.k0, ms.k5, gd_T, eq_self, hc, bd2_id, Int.reduceToNat]
      rw [e8, ew.e, e9]
      exact MR.of (bdg (rIn1 z.1 (by omega)) (iteF (by omega) (nng ms.r808 (gdg (by rw [ms.k18]) (gdg (by rw [ms.k18]; show 0 ≤ _ ∧ _ < (8 : Int); omega) rfl))))) mr_m0
  · refine ok3 I J ⟨8, -1, ?_, fun h1 p => ?_⟩
    · show XR (fX11_shelfAt h X a) h X _ _
      unfold fX11_shelfAt
      exact XR.of (gdg H.k (nng H.1.r716 (gdg kh (nng H.1.r324 (bd2_id _))))) (xr_at0 H.k (QR.rf h) rv z)
    · obtain ⟨ms, hc, -⟩ := G.q p
      have n1 : ¬ sc X (X + 121) := by unfold sc; omega
      have e8 : gI (pI (pI h1 769 (X + 121) 0) 768 (X + 121) 0) 809 (X + 121) = gI h 809 (X + 121) := by rw [gI_n (by omega), gI_n (by omega)]; exact p.i n1 (fun y => by unfold pX at y; omega)
      have ew : WE (gI h 809 (X + 121) - 1) := we (by omega) (by omega)
      simp only [fX12_shelfAt, lt_d, hK_pI, gR_pI, gA_pI, gB_pI, gC_pI, gJ_pI, ms.r788, nn_s, ms.k0, ms.k5, gd_T, eq_self, hc, bd2_id, Int.reduceToNat]
      rw [e8, ew.e]
      exact MR.of (bdg (rIn0 (by omega)) (iteT rfl rfl)) (mr_m0r ms (rg_lit rfl))

set_option maxHeartbeats 200000 in
theorem ok_mergedAt {h : Hp} {X : Nat} {a : Int} (I : Inv h X) : OK3 (fun h => fX11_mergedAt h X a) (fun h => fX12_mergedAt h (X + 121) a) h X := by
  obtain ⟨c, J, i1, i2, i3⟩ := id I
  have H := J.x
  have G := J.m
  have cn := J.mg
  have b9 := cn.1
  have kh : (hK h (X + 104)).1 = 4 := by rw [H.1.k104]
  have k6 : (hK h (X + 111)).1 = 6 := by rw [H.1.k111]
  have rv := rv_own k6 H.1.r384_111 H.1.k112 H.1.2.2.2.2.1 cn.2.1 cn.1.1 cn.1.2 (by omega)
  by_cases z : 0 ≤ a ∧ a < gI h 806 (X + 121)
  · refine ok3 I J ⟨0, gA h (X + 112) a.toNat, ?_, fun h1 p => ?_⟩
    · show XR (fX11_mergedAt h X a) h X _ _
      unfold fX11_mergedAt
      have := xr_at1 H.k (QR.rf h) rv z
      unfold rwL at this
      rw [if_pos z] at this
      exact XR.of (gdg H.k (nng H.1.r715 (gdg kh (nng H.1.r264 (bd2_id _))))) this
    · have J1 := J.q (fl_q p)
      obtain ⟨ms, hc, -⟩ := G.q p
      have n1 : ¬ sc X (X + 121) := by unfold sc; omega
      have n2 : ¬ sc X (X + 112) := by unfold sc; omega
      have e8 : gI (pI (pI h1 769 (X + 121) 0) 768 (X + 121) 0) 806 (X + 121) = gI h 806 (X + 121) := by rw [gI_n (by omega), gI_n (by omega)]; exact p.i n1 (fun y => by unfold pX at y; omega)
      have e9 := (J1.mg.2.2.1 a.toNat (by rw [p.i n1 (fun y => by unfold pX at y; omega)]; omega))
      rw [p.a n2] at e9
      have ew : WE (gI h 806 (X + 121) - 1) := we (by omega) (by omega)
      simp only [fX12_mergedAt, lt_d, hK_pI, gR_pI, gA_pI, gB_pI, gC_pI, gJ_pI, ms.r788, nn_s, ms.k0, ms.k5, gd_T, eq_self, hc, bd2_id, Int.reduceToNat]
      rw [e8, ew.e, e9]
      exact MR.of (bdg (rIn1 z.1 (by omega)) (iteF (by omega) (nng ms.r802 (gdg (by rw [ms.k15]) (gdg (by rw [ms.k15]; show 0 ≤ _ ∧ _ < (80 : Int); omega) rfl))))) mr_m0
  · refine ok3 I J ⟨8, -1, ?_, fun h1 p => ?_⟩
    · show XR (fX11_mergedAt h X a) h X _ _
      unfold fX11_mergedAt
      exact XR.of (gdg H.k (nng H.1.r715 (gdg kh (nng H.1.r264 (bd2_id _))))) (xr_at0 H.k (QR.rf h) rv z)
    · obtain ⟨ms, hc, -⟩ := G.q p
      have n1 : ¬ sc X (X + 121) := by unfold sc; omega
      have e8 : gI (pI (pI h1 769 (X + 121) 0) 768 (X + 121) 0) 806 (X + 121) = gI h 806 (X + 121) := by rw [gI_n (by omega), gI_n (by omega)]; exact p.i n1 (fun y => by unfold pX at y; omega)
      have ew : WE (gI h 806 (X + 121) - 1) := we (by omega) (by omega)
      simp only [fX12_mergedAt, lt_d, hK_pI, gR_pI, gA_pI, gB_pI, gC_pI, gJ_pI, ms.r788, nn_s, ms.k0, ms.k5, gd_T, eq_self, hc, bd2_id, Int.reduceToNat]
      rw [e8, ew.e]
      exact MR.of (bdg (rIn0 (by omega)) (iteT rfl rfl)) (mr_m0r ms (rg_lit rfl))

set_option maxHeartbeats 200000 in
theorem ok_brokeOn {h : Hp} {X : Nat} {a : Int} (I : Inv h X) : OK3 (fun h => fX11_brokeOn h X a) (fun h => fX12_brokeOn h (X + 121) a) h X := by
  obtain ⟨c, J, i1, i2, i3⟩ := id I
  have H := J.x
  have G := J.m
  have w := H.wf
  by_cases q1 : okJ c a
  · have a8 := nj_lt w q1
    have k1 : (hK h (X + 102)).1 = 21 := by rw [H.1.k102]
    have k2 : inA a (hK h (X + 102)).2 := by rw [H.1.k102]; exact ⟨q1.1, a8⟩
    have rd := J.rd
    have r9 := rd.2 a.toNat (by have := q1.1; omega)
    have n1 : ¬ sc X (X + 121) := by unfold sc; omega
    have n2 : ¬ sc X (X + 121 + 22) := by unfold sc; omega
    by_cases z : gA h (X + 102) a.toNat = 0
    · refine ok3 I J ⟨8, -1, ?_, fun h1 p => ?_⟩
      · show XR (fX11_brokeOn h X a) h X _ _
        unfold fX11_brokeOn
        exact XR.of (gdg H.k (bdg (xJr1 H q1.1 q1.2) (iteF (by omega) (nng H.1.r713 (gdg k1 (gdg k2 (iteT z (bd2_id _)))))))) (xr_re H.k (QR.rf h) (rg_lit rfl))
      · obtain ⟨ms, hc, -⟩ := G.q p
        have e8 : gI (pI (pI h1 769 (X + 121) 0) 768 (X + 121) 0) 813 (X + 121) = gI h 813 (X + 121) := by rw [gI_n (by omega), gI_n (by omega)]; exact p.i n1 (fun y => by unfold pX at y; omega)
        simp only [fX12_brokeOn, lt_d, hK_pI, gR_pI, gA_pI, gB_pI, gC_pI, gJ_pI, ms.r788, nn_s, ms.k0, ms.k5, gd_T, eq_self, hc, bd2_id, Int.reduceToNat]
        rw [e8]
        by_cases y : gI h 813 (X + 121) = 0
        · exact MR.of (bdg (rJr1 w q1.1 q1.2) (iteF (by omega) (iteT y rfl))) (mr_m0r ms (rg_lit rfl))
        · rw [if_neg y, z] at r9
          exact MR.of (bdg (rJr1 w q1.1 q1.2) (iteF (by omega) (iteF y (nng ms.r815 (gdg (by rw [ms.k22]) (gdg (by rw [ms.k22]; exact ⟨q1.1, a8⟩) (iteT (by rw [p.a n2]; exact r9.symm) rfl))))))) (mr_m0r ms (rg_lit rfl))
    · refine ok3 I J ⟨0, gA h (X + 102) a.toNat, ?_, fun h1 p => ?_⟩
      · show XR (fX11_brokeOn h X a) h X _ _
        unfold fX11_brokeOn
        exact XR.of (gdg H.k (bdg (xJr1 H q1.1 q1.2) (iteF (by omega) (nng H.1.r713 (gdg k1 (gdg k2 (iteF z (gdg k2 (bd2_id _))))))))) (xr_an H.k (QR.rf h))
      · obtain ⟨ms, hc, -⟩ := G.q p
        have e8 : gI (pI (pI h1 769 (X + 121) 0) 768 (X + 121) 0) 813 (X + 121) = gI h 813 (X + 121) := by rw [gI_n (by omega), gI_n (by omega)]; exact p.i n1 (fun y => by unfold pX at y; omega)
        simp only [fX12_brokeOn, lt_d, hK_pI, gR_pI, gA_pI, gB_pI, gC_pI, gJ_pI, ms.r788, nn_s, ms.k0, ms.k5, gd_T, eq_self, hc, bd2_id, Int.reduceToNat]
        rw [e8]
        by_cases y : gI h 813 (X + 121) = 0
        · rw [if_pos y] at r9
          exact absurd r9 z
        · rw [if_neg y] at r9
          have r10 : gA h1 (X + 121 + 22) a.toNat = gA h (X + 102) a.toNat := by rw [p.a n2, r9]
          exact MR.of (bdg (rJr1 w q1.1 q1.2) (iteF (by omega) (iteF y (nng ms.r815 (gdg (by rw [ms.k22]) (gdg (by rw [ms.k22]; exact ⟨q1.1, a8⟩) (iteF (by rw [r10]; exact z) (gdg (by rw [ms.k22]; exact ⟨q1.1, a8⟩) (by rw [r10]))))))))) mr_m0
  · refine ok3 I J ⟨2, -1, ?_, fun h1 p => ?_⟩
    · show XR (fX11_brokeOn h X a) h X _ _
      unfold fX11_brokeOn
      exact XR.of (by (have z_1 := xJr0 H (noJ q1); (repeat' (first | (with_reducible refine ltg ?_) | ((with_reducible refine iteT ?_ ?_); omega) | ((with_reducible refine iteF ?_ ?_); omega) | ((with_reducible refine gdg ?_ ?_); first | with_reducible exact H.k | with_reducible exact z_1 | omega) | ((with_reducible apply nng); first | with_reducible exact H.k | with_reducible exact z_1) | ((with_reducible apply bdg); first | with_reducible exact H.k | with_reducible exact z_1) | ((with_reducible apply bd2g); first | with_reducible exact H.k | with_reducible exact z_1)))); exact bd2_id _) (xr_re H.k (QR.rf h) (rg_lit rfl))
    · obtain ⟨ms, hc, -⟩ := G.q p
      simp only [fX12_brokeOn, lt_d, hK_pI, gR_pI, gA_pI, gB_pI, gC_pI, gJ_pI, ms.r788, nn_s, ms.k0, ms.k5, gd_T, eq_self, hc, bd2_id, Int.reduceToNat]
      exact MR.of (by (have z_0 := rJr0 w (noJ q1); (repeat' (first | (with_reducible refine ltg ?_) | ((with_reducible refine iteT ?_ ?_); omega) | ((with_reducible refine iteF ?_ ?_); omega) | ((with_reducible refine gdg ?_ ?_); first | with_reducible exact z_0 | omega) | ((with_reducible apply nng); first | with_reducible exact z_0) | ((with_reducible apply bdg); first | with_reducible exact z_0) | ((with_reducible apply bd2g); first | with_reducible exact z_0)))); rfl) (mr_m0r ms (rg_lit rfl))

set_option maxHeartbeats 200000 in
theorem ok_day {h : Hp} {X : Nat} {a : Int} (I : Inv h X) : OK3 (fun h => fX11_day h X a) (fun h => fX12_day h (X + 121) a) h X := by
  obtain ⟨c, J, i1, i2, i3⟩ := id I
  have H := J.x
  have G := J.m
  have w := H.wf
  by_cases q1 : 0 ≤ a ∧ a ≤ 9999
  · have e1 : fX11_day h X a = some (1, pI (pI h 719 X a) 721 X 0) := by
      unfold fX11_day
      refine bdg (xIn1 q1.1 q1.2) (iteF (by omega) (gdg H.k ?_))
      rw [lt_d]
      unfold fX11_allow
      exact bd2g (gdg H.k rfl) rfl
    have p1 : FL [126] [(719, 0), (721, 0), (768, 121), (769, 121)] X h (pI (pI h 719 X a) 721 X 0) := (fl_pI h 0 rfl (by decide)).tr (fl_pI _ 0 rfl (by decide))
    have p1' : FL [] [(719, 0), (721, 0)] X h (pI (pI h 719 X a) 721 X 0) := (fl_pI h 0 rfl (by decide)).tr (fl_pI _ 0 rfl (by decide))
    have G1 := G.fl p1' J.z (by decide +kernel)
    clear p1'
    generalize e9 : pI (pI h 719 X a) 721 X 0 = t1 at e1 p1 G1
    obtain ⟨ms, hc, -⟩ := G1
    have p2 : FL [126] [(719, 0), (721, 0), (768, 121), (769, 121)] X t1 (sA (pI (pI t1 769 (X + 121) 0) 768 (X + 121) 0) (X + 121 + 5) 0 a) := ((fl_pI t1 121 rfl (by decide)).tr (fl_pI _ 121 rfl (by decide))).tr (fl_sA _ 126 rfl (by decide))
    have e2 : fX12_day t1 (X + 121) a = some (1, sA (pI (pI t1 769 (X + 121) 0) 768 (X + 121) 0) (X + 121 + 5) 0 a) := by
      simp only [fX12_day, lt_d, hK_pI, gR_pI, gA_pI, gB_pI, gC_pI, gJ_pI, ms.r788, nn_s, ms.k0, ms.k5, gd_T, eq_self, hc, bd2_id, Int.reduceToNat]
      refine bdg (rIn1 q1.1 q1.2) (iteF (by omega) ?_)
      first | rfl | exact gdg (by rw [ms.k5]) (gdg (by rw [ms.k5]; show 0 ≤ _ ∧ _ < (1850 : Int); omega) rfl)
    have p := p1.tr p2
    have ec : ∀ k, gA (sA (pI (pI t1 769 (X + 121) 0) 768 (X + 121) 0) (X + 121 + 5) 0 a) (X + 121 + 5) k = if k = 0 then a else c k := by
      intro k
      rw [gA_sA, gA_pI, gA_pI, ← G.2.1, ← e9, gA_pI, gA_pI]
      by_cases y : k = 0
      · rw [if_pos ⟨rfl, by omega⟩, if_pos y, w32_id (by omega) (by omega)]
      · rw [if_neg (fun z => y (by omega)), if_neg y]
    have i719 : gI (sA (pI (pI t1 769 (X + 121) 0) 768 (X + 121) 0) (X + 121 + 5) 0 a) 719 X = a := by
      rw [gI_sA, gI_n (by omega), gI_n (by omega), ← e9, gI_n (by omega)]
      exact gI_pIs (by unfold rg; omega)
    have i721 : gI (sA (pI (pI t1 769 (X + 121) 0) 768 (X + 121) 0) (X + 121 + 5) 0 a) 721 X = 0 := by
      rw [gI_sA, gI_n (by omega), gI_n (by omega), ← e9]
      exact gI_pIs (rg_lit rfl)
    have i768 : gI (sA (pI (pI t1 769 (X + 121) 0) 768 (X + 121) 0) (X + 121 + 5) 0 a) 768 (X + 121) = 0 := by
      rw [gI_sA]
      exact gI_pIs (rg_lit rfl)
    have j1 : ∀ f b, gJ (sA (pI (pI t1 769 (X + 121) 0) 768 (X + 121) 0) (X + 121 + 5) 0 a) f b = gJ h f b := fun f b => by rw [gJ_sA, gJ_pI, gJ_pI, ← e9, gJ_pI, gJ_pI]
    generalize sA (pI (pI t1 769 (X + 121) 0) 768 (X + 121) 0) (X + 121 + 5) 0 a = t2 at p2 e2 p ec i719 i721 i768 j1
    have ag : AgS c (gA t2 (X + 121 + 5)) := ⟨by rw [ec, if_neg (by omega)], by rw [ec, if_neg (by omega)], fun k k4 _ => by rw [ec, if_neg (by omega)]⟩
    have al : AgL c (gA t2 (X + 121 + 5)) := ⟨by rw [ec, if_neg (by omega)], fun k k4 _ => by rw [ec, if_neg (by omega)]⟩
    have w' : WF (gA t2 (X + 121 + 5)) := w.ag ag al (by rw [ec, if_pos rfl]; omega)
    refine ⟨1, t1, t2, e1, e2, gA t2 (X + 121 + 5), ?_, i721.trans i768.symm, by rw [j1, j1]; exact i2, by rw [j1, j1]; exact i3⟩
    have hx := H
    obtain ⟨h1, h2, h3, ⟨S, s1, s2, s3⟩, R, r1, r2, r3⟩ := hx
    have mk := J.mk.fl (c' := gA t2 (X + 121 + 5)) p J.z (by decide +kernel) (fun i _ => by
      funext k
      unfold bk
      by_cases y : k < 370
      · rw [if_pos y, if_pos y, ec, if_neg (by omega)]
      · rw [if_neg y, if_neg y])
    exact ⟨⟨h1.fl p J.z (by decide +kernel), w', by rw [i719, ec, if_pos rfl], ⟨S, Eq.trans (p.f0 J.z (by decide +kernel)).2.2 s1, (s2.fl p J.z (by decide +kernel) s3 (J.b.2.1 S s1) w).ag w ag, s3⟩, R, Eq.trans (p.f0 J.z (by decide +kernel)).2.2 r1, (r2.fl p J.z (by decide +kernel) r3 (J.b.2.2 R r1)).ag w al, r3⟩, ⟨J.m.1.fl p J.z (by decide +kernel), rfl, w'⟩, J.b.fl p (by decide +kernel) (by decide +kernel), J.tr.fl p J.z (by decide +kernel), J.tp.fl p J.z (by decide +kernel), mk, J.rd.fl p J.z (by decide +kernel), J.mg.fl p J.z (by decide +kernel), J.cn.fl p J.z (by decide +kernel), J.sf.fl p J.z (by decide +kernel)⟩
  · refine ok3 I J ⟨5, 0, ?_, fun h1 p => ?_⟩
    · show XR (fX11_day h X a) h X _ _
      unfold fX11_day
      exact XR.of (by (repeat' (first | (with_reducible refine ltg ?_) | ((with_reducible refine iteT ?_ ?_); omega) | ((with_reducible refine iteF ?_ ?_); omega) | ((with_reducible refine gdg ?_ ?_); first | with_reducible exact H.k | exact xIn0 (by omega) | omega) | ((with_reducible apply nng); first | with_reducible exact H.k | exact xIn0 (by omega)) | ((with_reducible apply bdg); first | with_reducible exact H.k | exact xIn0 (by omega)) | ((with_reducible apply bd2g); first | with_reducible exact H.k | exact xIn0 (by omega)))); exact bd2_id _) (xr_de H.k (QR.rf h) (rg_lit rfl))
    · obtain ⟨ms, hc, -⟩ := G.q p
      simp only [fX12_day, lt_d, hK_pI, gR_pI, gA_pI, gB_pI, gC_pI, gJ_pI, ms.r788, nn_s, ms.k0, ms.k5, gd_T, eq_self, hc, bd2_id, Int.reduceToNat]
      exact MR.of (by (repeat' (first | (with_reducible refine ltg ?_) | ((with_reducible refine iteT ?_ ?_); omega) | ((with_reducible refine iteF ?_ ?_); omega) | ((with_reducible refine gdg ?_ ?_); first | exact rIn0 (by omega) | omega) | ((with_reducible apply nng); first | exact rIn0 (by omega)) | ((with_reducible apply bdg); first | exact rIn0 (by omega)) | ((with_reducible apply bd2g); first | exact rIn0 (by omega)))); rfl) (mr_m0n ms (rg_lit rfl))
