/-! STATE: rows that come to a tray (written by wip/whole/g63.py) -/
set_option maxHeartbeats 200000 in
theorem tr_q {h h' : Hp} {X : Nat} {c : Nat → Int} (J : JC h X c) (p : QX X h h') {t : Nat} (t4 : t < 4) : TRt h' X t := (J.q (fl_q p)).tr t t4
set_option maxHeartbeats 200000 in
theorem mr_st2 {h : Hp} {X : Nat} {st v : Int} (r : rg st) : MR (some (v, pI (pI (pI h 769 (X + 121) 0) 768 (X + 121) 0) 768 (X + 121) st)) h X st v :=
  mr_some ((m0_q h X).tr (q_pI _ ⟨rfl, by omega⟩)) (gI_pIs r)
/-! BRING, in the class -/
set_option maxHeartbeats 200000 in
theorem xBr3 {h : Hp} {X a : Nat} {c : Nat → Int} {t : Int} (H : CX h X c) (T : TRt h X t.toNat) (t0 : 0 ≤ t) (t4 : t < 4) (q : gA h (X + 121 + 2) t.toNat < 0) : fX11_bring h X a t = fX11_refuse h X 3 := by
  obtain ⟨a1, a2, a3, a4, a5, a6, a7⟩ := H.1.tray t0 t4
  unfold fX11_bring
  refine gdg H.k (nng a1 (gdg a2 (gdg a3 (nng a4 (gdg a5 (bdg (xMis1 T a5 q) (iteF (by omega) ?_)))))))
  exact bd2_id _
set_option maxHeartbeats 200000 in
theorem xBr4 {h : Hp} {X a : Nat} {c : Nat → Int} {t n : Int} {L : Int → Int} (H : CX h X c) (T : TRt h X t.toNat) (t0 : 0 ≤ t) (t4 : t < 4) (r : RV h a n L) (q : ¬ gA h (X + 121 + 2) t.toNat < 0) (q2 : gA h (X + 121 + 2) t.toNat < n) : fX11_bring h X a t = fX11_refuse h X 4 := by
  obtain ⟨a1, a2, a3, a4, a5, a6, a7⟩ := H.1.tray t0 t4
  have ti := tr_is T q
  unfold fX11_bring
  refine gdg H.k (nng a1 (gdg a2 (gdg a3 (nng a4 (gdg a5 (bdg (xMis0 T a5 q) (iteT rfl (gdg r.k ?_))))))))
  rw [r.z]
  exact iteF (by omega) (bd2_id _)
set_option maxHeartbeats 200000 in
theorem xBr0 {h : Hp} {X a q9 : Nat} {c : Nat → Int} {t n : Int} {L : Int → Int} (H : CX h X c) (T : TRt h X t.toNat) (t0 : 0 ≤ t) (t4 : t < 4) (r : RVa h a q9 n L) (na : a ≠ X + 3 + 2 * t.toNat) (nq : q9 ≠ X + 3 + 2 * t.toNat) (bL : ∀ k, 0 ≤ L k ∧ L k ≤ 26) (q : ¬ gA h (X + 121 + 2) t.toNat < 0) (q2 : n ≤ gA h (X + 121 + 2) t.toNat) :
    ∃ t' : Hp, (On (fun b => b = X + 3 + 2 * t.toNat) h t' ∧ ∀ p, p < 60 → gB t' (X + 3 + 2 * t.toNat) p = if p < n.toNat then L (p : Int) else gB h (X + 3 + 2 * t.toNat) p) ∧ fX11_bring h X a t = some (n, pI t' 721 X 0) := by
  obtain ⟨a1, a2, a3, a4, a5, a6, a7⟩ := H.1.tray t0 t4
  have ti := tr_is T q
  have nb := r.v.b
  have key := fk (S := Hp) (T := Hp) (fun fu v s => fX11_bring_b40 X a t fu s (X + 2 + 2 * t.toNat) v) (fun s => some (n, pI s 721 X 0)) n.toNat (fun i s => On (fun b => b = X + 3 + 2 * t.toNat) h s ∧ ∀ p, p < 60 → gB s (X + 3 + 2 * t.toNat) p = if p < i then L (p : Int) else gB h (X + 3 + 2 * t.toNat) p) (fun s => On (fun b => b = X + 3 + 2 * t.toNat) h s ∧ ∀ p, p < 60 → gB s (X + 3 + 2 * t.toNat) p = if p < n.toNat then L (p : Int) else gB h (X + 3 + 2 * t.toNat) p) 0 h (by omega) ⟨On.rf h, fun p _ => by rw [if_neg (by omega)]⟩ (by omega)
    (fun fu i s hi hI => by
      obtain ⟨p1, p2⟩ := hI
      have rs := r.on p1 na nq
      have e5 : WE ((i : Int) + 1) := we (by omega) (by omega)
      have k1 : (hK s (X + 2 + 2 * t.toNat)).1 = 10 := by rw [p1.k]; exact a5
      have z642 : gI s 642 (X + 2 + 2 * t.toNat) = gI h 642 (X + 2 + 2 * t.toNat) := p1.i (by omega)
      have xp := xPut (h := s) (X := X) (t := t.toNat) (p := (i : Int)) (v := L (i : Int)) k1 (by rw [p1.r (by omega)]; exact a7) (p1.ka a6) (by omega) (by rw [z642]; omega) (by omega)
      rw [cut_l (bL _).1 (bL _).2] at xp
      have bl := bL (i : Int)
      left
      refine ⟨sB s (X + 3 + 2 * t.toNat) (i : Int) (L (i : Int)), ⟨p1.tr (on_sB s rfl), fun p hp => ?_⟩, ?_⟩
      · rw [gB_sB]
        by_cases y : p = i
        · rw [if_pos ⟨rfl, by omega⟩, if_pos (by omega), w64_id (by omega) (by omega), y]
        · rw [if_neg (fun z => y (by have := z.2; omega)), p2 p hp]
          by_cases y2 : p < i
          · rw [if_pos y2, if_pos (by omega)]
          · rw [if_neg y2, if_neg (by omega)]
      · show fX11_bring_b40 X a t (fu + 1) s (X + 2 + 2 * t.toNat) (i : Int) = fX11_bring_b40 X a t fu (sB s (X + 3 + 2 * t.toNat) (i : Int) (L (i : Int))) (X + 2 + 2 * t.toNat) ((i : Int) + 1)
        rw [fX11_bring_b40.eq_2, rs.v.z]
        refine gdg rs.v.k (iteT (by omega) (bdg (xAt rs.v _) (gdg k1 (bdg xp ?_))))
        rw [lt_d, e5.e])
    (fun fu s hI => by
      obtain ⟨p1, p2⟩ := hI
      have rs := r.on p1 na nq
      have kx : (hK s X).1 = 11 := by rw [p1.k]; exact H.k
      refine ⟨s, ⟨p1, p2⟩, ?_⟩
      show fX11_bring_b40 X a t (fu + 1) s (X + 2 + 2 * t.toNat) (n.toNat : Int) = _
      rw [fX11_bring_b40.eq_2, rs.v.z]
      refine gdg rs.v.k (iteF (by omega) (gdg kx ?_))
      unfold fX11_answer
      exact bd2g (gdg kx rfl) rfl)
  obtain ⟨t', h1, h2⟩ := key
  refine ⟨t', h1, ?_⟩
  unfold fX11_bring
  refine gdg H.k (nng a1 (gdg a2 (gdg a3 (nng a4 (gdg a5 (bdg (xMis0 T a5 q) (iteT rfl (gdg r.v.k ?_))))))))
  rw [r.v.z]
  exact iteT (by omega) h2
/-! filling a tray, in the reference -/
set_option maxHeartbeats 200000 in
theorem rTot {h : Hp} {M : Nat} {t i v : Int} (ms : MS h M) (t0 : 0 ≤ t) (t4 : t < 4) (i0 : 0 ≤ i) (i8 : i < 60) : fX12_toTray h M t i v = some (sB h (M + 3) (60 * t + i) v) := by
  have e1 : WE (60 * t) := we (by omega) (by omega)
  have e2 : WE (60 * t + i) := we (by omega) (by omega)
  unfold fX12_toTray
  rw [e1.e, e2.e]
  refine gdg ms.k (nng ms.r774 (gdg (by rw [ms.k3]) (gdg (by rw [ms.k3]; show 0 ≤ _ ∧ _ < (240 : Int); omega) ?_)))
  rw [lt_d]
set_option maxHeartbeats 200000 in
theorem MS.on {W : Nat → Prop} {h h' : Hp} {M : Nat} (H : MS h M) (p : On W h h') (w : ¬ W M) : MS h' M := ⟨fun i hi => by rw [p.k]; exact H.1 i hi, fun q hq => by rw [p.r w]; exact H.2 q hq⟩
set_option maxHeartbeats 200000 in
theorem rFiT (F : Nat → Hp → Int → Option (Int × Hp)) {h : Hp} {M n : Nat} {t r : Int} (v : Nat → Int) (ms : MS h M) (hv : ∀ i, i < n → 0 ≤ v i ∧ v i ≤ 26) (t0 : 0 ≤ t) (t4 : t < 4) (n60 : n ≤ 60)
    (stp : ∀ fu h' (i : Nat), i < n → On (fun b => b = M + 3) h h' → F (fu + 1) h' (i : Int) = bd (fX12_toTray h' M t (i : Int) (v i)) fun h9 => F fu h9 ((i : Int) + 1))
    (ext : ∀ fu h', On (fun b => b = M + 3) h h' → F (fu + 1) h' (n : Int) = some (r, h')) :
    ∃ h', (On (fun b => b = M + 3) h h' ∧ ∀ q, gB h' (M + 3) q = if 60 * t.toNat ≤ q ∧ q < 60 * t.toNat + n then v (q - 60 * t.toNat) else gB h (M + 3) q) ∧ F FU h 0 = some (r, h') :=
  fk (S := Hp) (T := Hp) (fun fu i s => F fu s i) (fun s => some (r, s)) n (fun i s => On (fun b => b = M + 3) h s ∧ ∀ q, gB s (M + 3) q = if 60 * t.toNat ≤ q ∧ q < 60 * t.toNat + i then v (q - 60 * t.toNat) else gB h (M + 3) q) _ 0 h (by omega) ⟨On.rf h, fun q => by rw [if_neg (by omega)]⟩ (by omega)
    (fun fu i s hi hI => by
      obtain ⟨p1, p2⟩ := hI
      have msS := ms.on p1 (by omega)
      have b := hv i hi
      left
      refine ⟨sB s (M + 3) (60 * t + (i : Int)) (v i), ⟨p1.tr (on_sB s rfl), fun q => ?_⟩, ?_⟩
      · rw [gB_sB]
        by_cases y : q = 60 * t.toNat + i
        · rw [if_pos ⟨rfl, by omega⟩, if_pos (by omega), w64_id (by omega) (by omega), y, show 60 * t.toNat + i - 60 * t.toNat = i by omega]
        · rw [if_neg (fun z => y (by have := z.2; omega)), p2 q]
          by_cases y2 : 60 * t.toNat ≤ q ∧ q < 60 * t.toNat + i
          · rw [if_pos y2, if_pos (by omega)]
          · rw [if_neg y2, if_neg (by omega)]
      · rw [stp fu s i hi p1]
        exact bdg (rTot msS t0 t4 (by omega) (by omega)) rfl)
    (fun fu s hI => ⟨s, hI, ext fu s hI.1⟩)
set_option maxHeartbeats 200000 in
theorem rWny {h h' : Hp} {X : Nat} {t n : Int} (ms : MS h' (X + 121)) (e : ∀ i, gA h' (X + 121 + 2) i = gA h (X + 121 + 2) i) (t0 : 0 ≤ t) (t4 : t < 4) : fX12_whyNoRow h' (X + 121) t n = some (if gA h (X + 121 + 2) t.toNat < 0 then 3 else if gA h (X + 121 + 2) t.toNat < n then 4 else 0) := by
  unfold fX12_whyNoRow
  refine gdg ms.k (nng ms.r773 (gdg (by rw [ms.k2]) (gdg (by rw [ms.k2]; exact ⟨t0, t4⟩) ?_)))
  rw [e]
  by_cases q : gA h (X + 121 + 2) t.toNat < 0
  · rw [if_pos q, if_pos q]
  · rw [if_neg q, if_neg q]
    refine gdg (by rw [ms.k2]; exact ⟨t0, t4⟩) ?_
    by_cases q2 : gA h (X + 121 + 2) t.toNat < n
    · rw [if_pos q2, if_pos q2]
    · rw [if_neg q2, if_neg q2]
set_option maxHeartbeats 200000 in
theorem inv_bring {h h' t' h3 h4 : Hp} {X t n : Nat} {c : Nat → Int} {v : Nat → Int} (J : JC h X c) (i2 : gJ h 722 X = gJ h 770 (X + 121)) (i3 : gJ h 723 X = gJ h 771 (X + 121)) (t4 : t < 4) (n60 : n ≤ 60) (p1 : QX X h h')
    (o1 : On (fun b => b = X + 3 + 2 * t) h' t') (c1 : ∀ q, q < 60 → gB t' (X + 3 + 2 * t) q = if q < n then v q else gB h' (X + 3 + 2 * t) q)
    (q3 : QM X (pI t' 721 X 0) h3) (s3 : gI h3 768 (X + 121) = 0) (o4 : On (fun b => b = X + 121 + 3) h3 h4)
    (c4 : ∀ q, gB h4 (X + 121 + 3) q = if 60 * t ≤ q ∧ q < 60 * t + n then v (q - 60 * t) else gB h3 (X + 121 + 3) q) : Inv h4 X := by
  have t5 : t = 0 ∨ t = 1 ∨ t = 2 ∨ t = 3 := by omega
  have pp : FL [3, 5, 7, 9, 124] [] X h h4 := by
    refine (((fl_q p1).tr (fl_on o1 (fun b hb => Or.inr ⟨3 + 2 * t, ?_, by omega⟩))).tr (fl_q (q_pI t' (Or.inl ⟨rfl, rfl⟩)))).tr ((fl_m q3).tr (fl_on o4 (fun b hb => Or.inr ⟨124, by decide, by omega⟩)))
    rcases t5 with z | z | z | z <;> rw [z] <;> decide
  have nT : ∀ u, u < 4 → ¬ sc X (X + 3 + 2 * u) := fun u hu => by unfold sc; omega
  have nN : ¬ sc X (X + 121 + 3) := by unfold sc; omega
  have n0 : ¬ sc X X := by unfold sc; omega
  refine inv_tr J (pp.mono (by decide) (by decide)) ?_ i2 i3 ?_
  · refine J.tr.put (t := t) J.z pp (fun q => q < n) v ?_ ?_ ?_ ?_ ?_
    · intro q q60 e
      rw [o4.b (by omega), q3.b (nT t t4), gB_pI, c1 q q60, if_pos e]
    · intro q q60 e
      rw [o4.b (by omega), q3.b (nT t t4), gB_pI, c1 q q60, if_neg e, p1.b (nT t t4)]
    · intro q q60 e
      have e : q < n := e
      rw [c4, if_pos (by omega), show 60 * t + q - 60 * t = q by omega]
    · intro t' q u8 q60 e
      rw [c4, if_neg (fun z => e (by omega) (show q < n by omega)), q3.b nN, gB_pI, o1.b (by omega), p1.b nN]
    · intro u u8 ne q
      rw [o4.b (by omega), q3.b (nT u u8), gB_pI, o1.b (by omega), p1.b (nT u u8)]
  · rw [o4.i (by omega), o4.i (by omega), s3, q3.i n0 (fun z => by unfold pM at z; omega)]
    exact gI_pIs (rg_lit rfl)

set_option maxHeartbeats 200000 in
theorem ok_pourOut {h : Hp} {X : Nat} {a t : Int} (I : Inv h X) : OK3 (fun h => fX11_pourOut h X a t) (fun h => fX12_pourOut h (X + 121) a t) h X := by
  obtain ⟨c, J, i1, i2, i3⟩ := id I
  have H := J.x
  have G := J.m
  have w := H.wf
  by_cases q1 : 0 ≤ t ∧ t < 4
  · by_cases q2 : okJ c a
    · have qt := q1
      have a8 := nj_lt w q2
      have hb := hN_bd w q2.1 a8
      obtain ⟨h', g1, pq, Cq, ⟨qq, rv, -, -⟩, g5, g6⟩ := H.hearV q2
      have na : X + 81 + 2 * a.toNat ≠ X + 3 + 2 * t.toNat := by omega
      have nq : qq ≠ X + 3 + 2 * t.toNat := fun e => by
        have y1 := rv.2.2.2.2.2.2.1
        have y2 := (Cq.1.tray qt.1 qt.2).2.2.2.2.2.1
        rw [e, y2] at y1
        exact absurd y1 (by decide)
      have bL : ∀ k, 0 ≤ hL c a k ∧ hL c a k ≤ 26 := fun k => hL_bd w q2.1 a8
      have n8 : 0 ≤ hN c a ∧ hN c a ≤ 31 := by omega
      have kq := Cq.k
      have ex : fX11_pourOut h X a t = fX11_bring h' X (X + 81 + 2 * a.toNat) t := by
        unfold fX11_pourOut
        refine bdg (xTr1 q1.1 q1.2) (iteF (by omega) (gdg H.k (bdg (xJr1 H q2.1 q2.2) (iteF (by omega) (bd2g g1 (gdg kq ?_))))))
        exact bd2_id _
      have T := tr_q J pq (t := t.toNat) (by omega)
      have n2 : ¬ sc X (X + 121 + 2) := by unfold sc; omega
      have eh : gA h' (X + 121 + 2) t.toNat = gA h (X + 121 + 2) t.toNat := pq.a n2
      by_cases m1 : gA h (X + 121 + 2) t.toNat < 0
      · refine ok3 I J ⟨3, -1, ?_, fun h1 p => ?_⟩
        · show XR (fX11_pourOut h X a t) h X _ _
          rw [ex, xBr3 Cq T qt.1 qt.2 (by rw [eh]; exact m1)]
          exact xr_re Cq.k pq (rg_lit rfl)
        · obtain ⟨ms, hc, -⟩ := G.q p
          have hc' : gA (pI (pI h1 769 (X + 121) 0) 768 (X + 121) 0) (X + 121 + 5) = c := hc
          have rw1 := rWny (h := h) (h' := pI (pI h1 769 (X + 121) 0) 768 (X + 121) 0) (t := t) (n := hN c a) ms (fun i => p.a n2) qt.1 qt.2
          rw [if_pos m1] at rw1
          have z0 : gI (pI (pI (pI h1 769 (X + 121) 0) 768 (X + 121) 0) 768 (X + 121) 3) 768 (X + 121) = 3 := gI_pIs (rg_lit rfl)
          show MR (fX12_pourOut h1 (X + 121) a t) h1 X _ _
          unfold fX12_pourOut
          refine MR.of ?_ (mr_st2 (st := 3) (rg_lit rfl))
          refine gdg ms.k (ltg (ltg (bdg (rTr1 qt.1 qt.2) (iteF (by omega) (nng (q := X + 121 + 5) ms.r788 (gdg ms.k5 ?_))))))
          rw [hc']
          refine bdg (rJr1 w q2.1 q2.2) (iteF (by omega) (gdg ms.k5 (bdg (rNow w q2.1 a8) ?_)))
          refine bdg rw1 ?_
          rw [lt_d, z0]
          exact iteT (by omega) rfl
      · by_cases m2 : gA h (X + 121 + 2) t.toNat < hN c a
        · refine ok3 I J ⟨4, -1, ?_, fun h1 p => ?_⟩
          · show XR (fX11_pourOut h X a t) h X _ _
            rw [ex, xBr4 Cq T qt.1 qt.2 rv.v (by rw [eh]; exact m1) (by rw [eh]; exact m2)]
            exact xr_re Cq.k pq (rg_lit rfl)
          · obtain ⟨ms, hc, -⟩ := G.q p
            have hc' : gA (pI (pI h1 769 (X + 121) 0) 768 (X + 121) 0) (X + 121 + 5) = c := hc
            have rw1 := rWny (h := h) (h' := pI (pI h1 769 (X + 121) 0) 768 (X + 121) 0) (t := t) (n := hN c a) ms (fun i => p.a n2) qt.1 qt.2
            rw [if_neg m1, if_pos m2] at rw1
            have z0 : gI (pI (pI (pI h1 769 (X + 121) 0) 768 (X + 121) 0) 768 (X + 121) 4) 768 (X + 121) = 4 := gI_pIs (rg_lit rfl)
            show MR (fX12_pourOut h1 (X + 121) a t) h1 X _ _
            unfold fX12_pourOut
            refine MR.of ?_ (mr_st2 (st := 4) (rg_lit rfl))
            refine gdg ms.k (ltg (ltg (bdg (rTr1 qt.1 qt.2) (iteF (by omega) (nng (q := X + 121 + 5) ms.r788 (gdg ms.k5 ?_))))))
            rw [hc']
            refine bdg (rJr1 w q2.1 q2.2) (iteF (by omega) (gdg ms.k5 (bdg (rNow w q2.1 a8) ?_)))
            refine bdg rw1 ?_
            rw [lt_d, z0]
            exact iteT (by omega) rfl
        · have ti := tr_is (J.tr t.toNat (by omega)) m1
          obtain ⟨t', ⟨o1, c1⟩, e1⟩ := xBr0 Cq T qt.1 qt.2 rv na nq bL (by rw [eh]; exact m1) (by rw [eh]; omega)
          have e2 : fX11_pourOut h X a t = some (hN c a, pI t' 721 X 0) := ex.trans e1
          have p1 : FL [3, 5, 7, 9] [] X h (pI t' 721 X 0) := by
            refine ((fl_q pq).tr (fl_on o1 (fun b hb => Or.inr ⟨3 + 2 * t.toNat, ?_, by omega⟩))).tr (fl_q (q_pI t' (Or.inl ⟨rfl, rfl⟩)))
            have t5 : t.toNat = 0 ∨ t.toNat = 1 ∨ t.toNat = 2 ∨ t.toNat = 3 := by omega
            rcases t5 with z | z | z | z <;> rw [z] <;> decide
          have G1 := G.fl p1 J.z (by decide +kernel)
          have e3 : ∀ i, gA (pI t' 721 X 0) (X + 121 + 2) i = gA h (X + 121 + 2) i := fun i => by rw [gA_pI, o1.a (by omega)]; exact pq.a n2
          have iv := fun h3 h4 => inv_bring (h3 := h3) (h4 := h4) (n := (hN c a).toNat) (v := fun q => hL c a (q : Int)) J i2 i3 (show t.toNat < 4 by omega) (by omega) pq o1 c1
          generalize pI t' 721 X 0 = h1 at e2 G1 e3 iv
          obtain ⟨ms, hc, -⟩ := G1
          have rw1 := rWny (h := h) (h' := pI (pI h1 769 (X + 121) 0) 768 (X + 121) 0) (t := t) (n := hN c a) ms e3 qt.1 qt.2
          rw [if_neg m1, if_neg m2] at rw1
          have z0 : gI (pI (pI (pI h1 769 (X + 121) 0) 768 (X + 121) 0) 768 (X + 121) 0) 768 (X + 121) = 0 := gI_pIs (rg_lit rfl)
          have hc' : gA (pI (pI h1 769 (X + 121) 0) 768 (X + 121) 0) (X + 121 + 5) = c := hc
          have ms' : MS (pI (pI (pI h1 769 (X + 121) 0) 768 (X + 121) 0) 768 (X + 121) 0) (X + 121) := ms
          obtain ⟨h4, ⟨o4, c4⟩, e4⟩ := rFiT (fun fu s i => fX12_pourOut_b66 (X + 121) a t fu s (hN c a) i) (h := pI (pI (pI h1 769 (X + 121) 0) 768 (X + 121) 0) 768 (X + 121) 0) (M := X + 121) (n := (hN c a).toNat) (t := t) (r := hN c a) (fun q => hL c a (q : Int)) ms' (fun i hi => by have b := bL (i : Int); exact b) qt.1 qt.2 (by omega)
            (fun fu s i hi os => by
              have k5 : hK s (X + 121 + 5) = (21, 1850) := os.ka ms.k5
              have km : (hK s (X + 121)).1 = 12 := by rw [os.k]; exact ms.k
              have r5 : gR s 788 (X + 121) = some (X + 121 + 5) := by rw [os.r (by omega)]; exact ms.r788
              have hcs : gA s (X + 121 + 5) = c := by rw [os.af (by omega)]; exact hc
              have e5 : WE ((i : Int) + 1) := we (by omega) (by omega)
              rw [fX12_pourOut_b66.eq_2]
              refine iteT (by omega) (gdg km (nng r5 (gdg k5 ?_)))
              rw [hcs]
              refine bdg (rLet w q2.1 a8 (by omega) (by omega)) ?_
              simp only [lt_d, e5.e]
              )
            (fun fu s os => by
              rw [show (((hN c a).toNat : Nat) : Int) = hN c a by omega]
              rw [fX12_pourOut_b66.eq_2]
              exact iteF (by omega) rfl)
          refine ⟨hN c a, h1, h4, e2, ?_, iv _ h4 ((m0_q h1 X).tr (q_pI _ ⟨rfl, by omega⟩)) z0 o4 c4⟩
          show fX12_pourOut h1 (X + 121) a t = _
          unfold fX12_pourOut
          refine gdg ms.k (ltg (ltg (bdg (rTr1 qt.1 qt.2) (iteF (by omega) (nng (q := X + 121 + 5) ms.r788 (gdg ms.k5 ?_))))))
          rw [hc']
          refine bdg (rJr1 w q2.1 q2.2) (iteF (by omega) (gdg ms.k5 (bdg (rNow w q2.1 a8) ?_)))
          refine bdg rw1 ?_
          rw [lt_d, z0]
          exact iteF (by omega) e4
    · refine ok3 I J ⟨2, -1, ?_, fun h1 p => ?_⟩
      · show XR (fX11_pourOut h X a t) h X _ _
        unfold fX11_pourOut
        exact XR.of (by (have z_1 := xTr1 q1.1 q1.2; have z_2 := xJr0 H (noJ q2); (repeat' (first | (with_reducible refine ltg ?_) | ((with_reducible refine iteT ?_ ?_); omega) | ((with_reducible refine iteF ?_ ?_); omega) | ((with_reducible refine gdg ?_ ?_); first | with_reducible exact H.k | with_reducible exact z_1 | with_reducible exact z_2 | omega) | ((with_reducible apply nng); first | with_reducible exact H.k | with_reducible exact z_1 | with_reducible exact z_2) | ((with_reducible apply bdg); first | with_reducible exact H.k | with_reducible exact z_1 | with_reducible exact z_2) | ((with_reducible apply bd2g); first | with_reducible exact H.k | with_reducible exact z_1 | with_reducible exact z_2)))); exact bd2_id _) (xr_re H.k (QR.rf h) (rg_lit rfl))
      · obtain ⟨ms, hc, -⟩ := G.q p
        simp only [fX12_pourOut, lt_d, hK_pI, gR_pI, gA_pI, gB_pI, gC_pI, gJ_pI, ms.r788, nn_s, ms.k0, ms.k5, gd_T, eq_self, hc, bd2_id, Int.reduceToNat]
        exact MR.of (by (have z_0 := rTr1 q1.1 q1.2; have z_1 := rJr0 w (noJ q2); (repeat' (first | (with_reducible refine ltg ?_) | ((with_reducible refine iteT ?_ ?_); omega) | ((with_reducible refine iteF ?_ ?_); omega) | ((with_reducible refine gdg ?_ ?_); first | with_reducible exact z_0 | with_reducible exact z_1 | omega) | ((with_reducible apply nng); first | with_reducible exact z_0 | with_reducible exact z_1) | ((with_reducible apply bdg); first | with_reducible exact z_0 | with_reducible exact z_1) | ((with_reducible apply bd2g); first | with_reducible exact z_0 | with_reducible exact z_1)))); rfl) (mr_m0r ms (rg_lit rfl))
  · refine ok3 I J ⟨1, -1, ?_, fun h1 p => ?_⟩
    · show XR (fX11_pourOut h X a t) h X _ _
      unfold fX11_pourOut
      exact XR.of (by (repeat' (first | (with_reducible refine ltg ?_) | ((with_reducible refine iteT ?_ ?_); omega) | ((with_reducible refine iteF ?_ ?_); omega) | ((with_reducible refine gdg ?_ ?_); first | with_reducible exact H.k | exact xTr0 (by omega) | omega) | ((with_reducible apply nng); first | with_reducible exact H.k | exact xTr0 (by omega)) | ((with_reducible apply bdg); first | with_reducible exact H.k | exact xTr0 (by omega)) | ((with_reducible apply bd2g); first | with_reducible exact H.k | exact xTr0 (by omega)))); exact bd2_id _) (xr_re H.k (QR.rf h) (rg_lit rfl))
    · obtain ⟨ms, hc, -⟩ := G.q p
      simp only [fX12_pourOut, lt_d, hK_pI, gR_pI, gA_pI, gB_pI, gC_pI, gJ_pI, ms.r788, nn_s, ms.k0, ms.k5, gd_T, eq_self, hc, bd2_id, Int.reduceToNat]
      exact MR.of (by (repeat' (first | (with_reducible refine ltg ?_) | ((with_reducible refine iteT ?_ ?_); omega) | ((with_reducible refine iteF ?_ ?_); omega) | ((with_reducible refine gdg ?_ ?_); first | exact rTr0 (by omega) | omega) | ((with_reducible apply nng); first | exact rTr0 (by omega)) | ((with_reducible apply bdg); first | exact rTr0 (by omega)) | ((with_reducible apply bd2g); first | exact rTr0 (by omega)))); rfl) (mr_m0r ms (rg_lit rfl))

set_option maxHeartbeats 200000 in
theorem ok_atOnce {h : Hp} {X : Nat} {a b t : Int} (I : Inv h X) : OK3 (fun h => fX11_atOnce h X a b t) (fun h => fX12_atOnce h (X + 121) a b t) h X := by
  obtain ⟨c, J, i1, i2, i3⟩ := id I
  have H := J.x
  have G := J.m
  have w := H.wf
  by_cases q1 : 0 ≤ t ∧ t < 4
  · by_cases q2 : okJ c a
    · by_cases q3 : okJ c b
      · have qt := q1
        have a8 := nj_lt w q2
        have b8 := nj_lt w q3
        have hb := hN_bd w q2.1 a8
        have hb2 := hN_bd w q3.1 b8
        obtain ⟨h0, g1, pq0, Cq0, g4, g5, g6⟩ := H.hearV q2
        obtain ⟨hh, k1, pq1, Cq1, k4, k5, k6⟩ := Cq0.hearV q3
        have va := k5 a q2.1 a8 g4
        obtain ⟨S, s1, s2, s3⟩ := va
        obtain ⟨S', s1', s2', s3'⟩ := k4
        have y99 : ∀ q, (hK hh q).1 = 21 → q ≠ X + 99 := fun q y e => by
          rw [e, Cq1.1.k99] at y
          exact absurd y (by decide)
        have y1 := y99 _ s1.2.2.2.2.2.2.1
        have y2 := y99 _ s1'.2.2.2.2.2.2.1
        unfold sc at s3 s3'
        obtain ⟨h', ⟨pq2, Cq, o9, rv⟩, em⟩ := xMixR Cq1 s1 s1' (by omega) (by omega) (later := 0) (by omega) (by omega) (fun k => hL_bd w q2.1 a8) (fun k => hL_bd w q3.1 b8)
        have pq := (pq0.tr pq1).tr pq2
        have na : X + 99 ≠ X + 3 + 2 * t.toNat := by omega
        have nq : X + 100 ≠ X + 3 + 2 * t.toNat := by omega
        have en : max (hN c a) (0 + hN c b) = max (hN c a) (hN c b) := by omega
        rw [en] at rv
        have bL : ∀ k, 0 ≤ mxL c (max (hN c a) (hN c b)) (hL c a) (hL c b) 0 k ∧ mxL c (max (hN c a) (hN c b)) (hL c a) (hL c b) 0 k ≤ 26 := fun k => by
          unfold mxL
          split
          · exact mixS_bd w (hL_bd w q2.1 a8).1 (hL_bd w q2.1 a8).2 (hL_bd w q3.1 b8).1 (hL_bd w q3.1 b8).2
          · omega
        have n8 : 0 ≤ max (hN c a) (hN c b) ∧ max (hN c a) (hN c b) ≤ 31 := by omega
        have kq0 := Cq0.k
        have kq1 := Cq1.k
        have kq := Cq.k
        have ex : fX11_atOnce h X a b t = fX11_bring h' X (X + 99) t := by
          unfold fX11_atOnce
          refine bdg (xTr1 q1.1 q1.2) (iteF (by omega) (gdg H.k (bdg (xJr1 H q2.1 q2.2) (iteF (by omega) (bdg (xJr1 H q3.1 q3.2) (iteF (by omega) (bd2g g1 (gdg kq0 (bd2g k1 (gdg kq1 (bd2g em (gdg kq ?_))))))))))))
          exact bd2_id _
        have T := tr_q J pq (t := t.toNat) (by omega)
        have n2 : ¬ sc X (X + 121 + 2) := by unfold sc; omega
        have eh : gA h' (X + 121 + 2) t.toNat = gA h (X + 121 + 2) t.toNat := pq.a n2
        by_cases m1 : gA h (X + 121 + 2) t.toNat < 0
        · refine ok3 I J ⟨3, -1, ?_, fun h1 p => ?_⟩
          · show XR (fX11_atOnce h X a b t) h X _ _
            rw [ex, xBr3 Cq T qt.1 qt.2 (by rw [eh]; exact m1)]
            exact xr_re Cq.k pq (rg_lit rfl)
          · obtain ⟨ms, hc, -⟩ := G.q p
            have hc' : gA (pI (pI h1 769 (X + 121) 0) 768 (X + 121) 0) (X + 121 + 5) = c := hc
            have rw1 := rWny (h := h) (h' := pI (pI h1 769 (X + 121) 0) 768 (X + 121) 0) (t := t) (n := (max (hN c a) (hN c b))) ms (fun i => p.a n2) qt.1 qt.2
            rw [if_pos m1] at rw1
            have z0 : gI (pI (pI (pI h1 769 (X + 121) 0) 768 (X + 121) 0) 768 (X + 121) 3) 768 (X + 121) = 3 := gI_pIs (rg_lit rfl)
            show MR (fX12_atOnce h1 (X + 121) a b t) h1 X _ _
            unfold fX12_atOnce
            refine MR.of ?_ (mr_st2 (st := 3) (rg_lit rfl))
            refine gdg ms.k (ltg (ltg (bdg (rTr1 qt.1 qt.2) (iteF (by omega) (nng (q := X + 121 + 5) ms.r788 (gdg ms.k5 ?_))))))
            rw [hc']
            refine bdg (rJr1 w q2.1 q2.2) (iteF (by omega) (gdg ms.k5 (bdg (rJr1 w q3.1 q3.2) (iteF (by omega) (gdg ms.k5 (bdg (rNow w q2.1 a8) (gdg ms.k5 (bdg (rNow w q3.1 b8) ?_))))))))
            rw [lt_d]
            refine bdg rw1 ?_
            rw [lt_d, z0]
            exact iteT (by omega) rfl
        · by_cases m2 : gA h (X + 121 + 2) t.toNat < (max (hN c a) (hN c b))
          · refine ok3 I J ⟨4, -1, ?_, fun h1 p => ?_⟩
            · show XR (fX11_atOnce h X a b t) h X _ _
              rw [ex, xBr4 Cq T qt.1 qt.2 rv.v (by rw [eh]; exact m1) (by rw [eh]; exact m2)]
              exact xr_re Cq.k pq (rg_lit rfl)
            · obtain ⟨ms, hc, -⟩ := G.q p
              have hc' : gA (pI (pI h1 769 (X + 121) 0) 768 (X + 121) 0) (X + 121 + 5) = c := hc
              have rw1 := rWny (h := h) (h' := pI (pI h1 769 (X + 121) 0) 768 (X + 121) 0) (t := t) (n := (max (hN c a) (hN c b))) ms (fun i => p.a n2) qt.1 qt.2
              rw [if_neg m1, if_pos m2] at rw1
              have z0 : gI (pI (pI (pI h1 769 (X + 121) 0) 768 (X + 121) 0) 768 (X + 121) 4) 768 (X + 121) = 4 := gI_pIs (rg_lit rfl)
              show MR (fX12_atOnce h1 (X + 121) a b t) h1 X _ _
              unfold fX12_atOnce
              refine MR.of ?_ (mr_st2 (st := 4) (rg_lit rfl))
              refine gdg ms.k (ltg (ltg (bdg (rTr1 qt.1 qt.2) (iteF (by omega) (nng (q := X + 121 + 5) ms.r788 (gdg ms.k5 ?_))))))
              rw [hc']
              refine bdg (rJr1 w q2.1 q2.2) (iteF (by omega) (gdg ms.k5 (bdg (rJr1 w q3.1 q3.2) (iteF (by omega) (gdg ms.k5 (bdg (rNow w q2.1 a8) (gdg ms.k5 (bdg (rNow w q3.1 b8) ?_))))))))
              rw [lt_d]
              refine bdg rw1 ?_
              rw [lt_d, z0]
              exact iteT (by omega) rfl
          · have ti := tr_is (J.tr t.toNat (by omega)) m1
            obtain ⟨t', ⟨o1, c1⟩, e1⟩ := xBr0 Cq T qt.1 qt.2 rv na nq bL (by rw [eh]; exact m1) (by rw [eh]; omega)
            have e2 : fX11_atOnce h X a b t = some ((max (hN c a) (hN c b)), pI t' 721 X 0) := ex.trans e1
            have p1 : FL [3, 5, 7, 9] [] X h (pI t' 721 X 0) := by
              refine ((fl_q pq).tr (fl_on o1 (fun b hb => Or.inr ⟨3 + 2 * t.toNat, ?_, by omega⟩))).tr (fl_q (q_pI t' (Or.inl ⟨rfl, rfl⟩)))
              have t5 : t.toNat = 0 ∨ t.toNat = 1 ∨ t.toNat = 2 ∨ t.toNat = 3 := by omega
              rcases t5 with z | z | z | z <;> rw [z] <;> decide
            have G1 := G.fl p1 J.z (by decide +kernel)
            have e3 : ∀ i, gA (pI t' 721 X 0) (X + 121 + 2) i = gA h (X + 121 + 2) i := fun i => by rw [gA_pI, o1.a (by omega)]; exact pq.a n2
            have iv := fun h3 h4 => inv_bring (h3 := h3) (h4 := h4) (n := ((max (hN c a) (hN c b))).toNat) (v := fun q => mxL c (max (hN c a) (hN c b)) (hL c a) (hL c b) 0 (q : Int)) J i2 i3 (show t.toNat < 4 by omega) (by omega) pq o1 c1
            generalize pI t' 721 X 0 = h1 at e2 G1 e3 iv
            obtain ⟨ms, hc, -⟩ := G1
            have rw1 := rWny (h := h) (h' := pI (pI h1 769 (X + 121) 0) 768 (X + 121) 0) (t := t) (n := (max (hN c a) (hN c b))) ms e3 qt.1 qt.2
            rw [if_neg m1, if_neg m2] at rw1
            have z0 : gI (pI (pI (pI h1 769 (X + 121) 0) 768 (X + 121) 0) 768 (X + 121) 0) 768 (X + 121) = 0 := gI_pIs (rg_lit rfl)
            have hc' : gA (pI (pI h1 769 (X + 121) 0) 768 (X + 121) 0) (X + 121 + 5) = c := hc
            have ms' : MS (pI (pI (pI h1 769 (X + 121) 0) 768 (X + 121) 0) 768 (X + 121) 0) (X + 121) := ms
            obtain ⟨h4, ⟨o4, c4⟩, e4⟩ := rFiT (fun fu s i => fX12_atOnce_b84 (X + 121) a b t fu s (max (hN c a) (hN c b)) i) (h := pI (pI (pI h1 769 (X + 121) 0) 768 (X + 121) 0) 768 (X + 121) 0) (M := X + 121) (n := ((max (hN c a) (hN c b))).toNat) (t := t) (r := (max (hN c a) (hN c b))) (fun q => mxL c (max (hN c a) (hN c b)) (hL c a) (hL c b) 0 (q : Int)) ms' (fun i hi => by have b := bL (i : Int); exact b) qt.1 qt.2 (by omega)
              (fun fu s i hi os => by
                have k5 : hK s (X + 121 + 5) = (21, 1850) := os.ka ms.k5
                have km : (hK s (X + 121)).1 = 12 := by rw [os.k]; exact ms.k
                have r5 : gR s 788 (X + 121) = some (X + 121 + 5) := by rw [os.r (by omega)]; exact ms.r788
                have hcs : gA s (X + 121 + 5) = c := by rw [os.af (by omega)]; exact hc
                have e5 : WE ((i : Int) + 1) := we (by omega) (by omega)
                rw [fX12_atOnce_b84.eq_2]
                refine iteT (by omega) (gdg km (nng r5 (gdg k5 ?_)))
                rw [hcs]
                have em9 : mxL c (max (hN c a) (hN c b)) (hL c a) (hL c b) 0 (i : Int) = mixS c (hL c a (i : Int)) (hL c b (i : Int)) := by
                  unfold mxL
                  rw [if_pos (by omega), Int.sub_zero]
                refine bdg (rLetO w q2.1 a8 (by unfold rg; omega)) (gdg k5 (bdg (rLetO w q3.1 b8 (by unfold rg; omega)) (gdg k5 (bdg (rMix w) ?_))))
                simp only [lt_d, e5.e, em9]
                )
              (fun fu s os => by
                rw [show ((((max (hN c a) (hN c b))).toNat : Nat) : Int) = (max (hN c a) (hN c b)) by omega]
                rw [fX12_atOnce_b84.eq_2]
                exact iteF (by omega) rfl)
            refine ⟨(max (hN c a) (hN c b)), h1, h4, e2, ?_, iv _ h4 ((m0_q h1 X).tr (q_pI _ ⟨rfl, by omega⟩)) z0 o4 c4⟩
            show fX12_atOnce h1 (X + 121) a b t = _
            unfold fX12_atOnce
            refine gdg ms.k (ltg (ltg (bdg (rTr1 qt.1 qt.2) (iteF (by omega) (nng (q := X + 121 + 5) ms.r788 (gdg ms.k5 ?_))))))
            rw [hc']
            refine bdg (rJr1 w q2.1 q2.2) (iteF (by omega) (gdg ms.k5 (bdg (rJr1 w q3.1 q3.2) (iteF (by omega) (gdg ms.k5 (bdg (rNow w q2.1 a8) (gdg ms.k5 (bdg (rNow w q3.1 b8) ?_))))))))
            rw [lt_d]
            refine bdg rw1 ?_
            rw [lt_d, z0]
            exact iteF (by omega) e4
      · refine ok3 I J ⟨2, -1, ?_, fun h1 p => ?_⟩
        · show XR (fX11_atOnce h X a b t) h X _ _
          unfold fX11_atOnce
          exact XR.of (by (have z_1 := xTr1 q1.1 q1.2; have z_2 := xJr1 H q2.1 q2.2; have z_3 := xJr0 H (noJ q3); (repeat' (first | (with_reducible refine ltg ?_) | ((with_reducible refine iteT ?_ ?_); omega) | ((with_reducible refine iteF ?_ ?_); omega) | ((with_reducible refine gdg ?_ ?_); first | with_reducible exact H.k | with_reducible exact z_1 | with_reducible exact z_2 | with_reducible exact z_3 | omega) | ((with_reducible apply nng); first | with_reducible exact H.k | with_reducible exact z_1 | with_reducible exact z_2 | with_reducible exact z_3) | ((with_reducible apply bdg); first | with_reducible exact H.k | with_reducible exact z_1 | with_reducible exact z_2 | with_reducible exact z_3) | ((with_reducible apply bd2g); first | with_reducible exact H.k | with_reducible exact z_1 | with_reducible exact z_2 | with_reducible exact z_3)))); exact bd2_id _) (xr_re H.k (QR.rf h) (rg_lit rfl))
        · obtain ⟨ms, hc, -⟩ := G.q p
          simp only [fX12_atOnce, lt_d, hK_pI, gR_pI, gA_pI, gB_pI, gC_pI, gJ_pI, ms.r788, nn_s, ms.k0, ms.k5, gd_T, eq_self, hc, bd2_id, Int.reduceToNat]
          exact MR.of (by (have z_0 := rTr1 q1.1 q1.2; have z_1 := rJr1 w q2.1 q2.2; have z_2 := rJr0 w (noJ q3); (repeat' (first | (with_reducible refine ltg ?_) | ((with_reducible refine iteT ?_ ?_); omega) | ((with_reducible refine iteF ?_ ?_); omega) | ((with_reducible refine gdg ?_ ?_); first | with_reducible exact z_0 | with_reducible exact z_1 | with_reducible exact z_2 | omega) | ((with_reducible apply nng); first | with_reducible exact z_0 | with_reducible exact z_1 | with_reducible exact z_2) | ((with_reducible apply bdg); first | with_reducible exact z_0 | with_reducible exact z_1 | with_reducible exact z_2) | ((with_reducible apply bd2g); first | with_reducible exact z_0 | with_reducible exact z_1 | with_reducible exact z_2)))); rfl) (mr_m0r ms (rg_lit rfl))
    · refine ok3 I J ⟨2, -1, ?_, fun h1 p => ?_⟩
      · show XR (fX11_atOnce h X a b t) h X _ _
        unfold fX11_atOnce
        exact XR.of (by (have z_1 := xTr1 q1.1 q1.2; have z_2 := xJr0 H (noJ q2); (repeat' (first | (with_reducible refine ltg ?_) | ((with_reducible refine iteT ?_ ?_); omega) | ((with_reducible refine iteF ?_ ?_); omega) | ((with_reducible refine gdg ?_ ?_); first | with_reducible exact H.k | with_reducible exact z_1 | with_reducible exact z_2 | omega) | ((with_reducible apply nng); first | with_reducible exact H.k | with_reducible exact z_1 | with_reducible exact z_2) | ((with_reducible apply bdg); first | with_reducible exact H.k | with_reducible exact z_1 | with_reducible exact z_2) | ((with_reducible apply bd2g); first | with_reducible exact H.k | with_reducible exact z_1 | with_reducible exact z_2)))); exact bd2_id _) (xr_re H.k (QR.rf h) (rg_lit rfl))
      · obtain ⟨ms, hc, -⟩ := G.q p
        simp only [fX12_atOnce, lt_d, hK_pI, gR_pI, gA_pI, gB_pI, gC_pI, gJ_pI, ms.r788, nn_s, ms.k0, ms.k5, gd_T, eq_self, hc, bd2_id, Int.reduceToNat]
        exact MR.of (by (have z_0 := rTr1 q1.1 q1.2; have z_1 := rJr0 w (noJ q2); (repeat' (first | (with_reducible refine ltg ?_) | ((with_reducible refine iteT ?_ ?_); omega) | ((with_reducible refine iteF ?_ ?_); omega) | ((with_reducible refine gdg ?_ ?_); first | with_reducible exact z_0 | with_reducible exact z_1 | omega) | ((with_reducible apply nng); first | with_reducible exact z_0 | with_reducible exact z_1) | ((with_reducible apply bdg); first | with_reducible exact z_0 | with_reducible exact z_1) | ((with_reducible apply bd2g); first | with_reducible exact z_0 | with_reducible exact z_1)))); rfl) (mr_m0r ms (rg_lit rfl))
  · refine ok3 I J ⟨1, -1, ?_, fun h1 p => ?_⟩
    · show XR (fX11_atOnce h X a b t) h X _ _
      unfold fX11_atOnce
      exact XR.of (by (repeat' (first | (with_reducible refine ltg ?_) | ((with_reducible refine iteT ?_ ?_); omega) | ((with_reducible refine iteF ?_ ?_); omega) | ((with_reducible refine gdg ?_ ?_); first | with_reducible exact H.k | exact xTr0 (by omega) | omega) | ((with_reducible apply nng); first | with_reducible exact H.k | exact xTr0 (by omega)) | ((with_reducible apply bdg); first | with_reducible exact H.k | exact xTr0 (by omega)) | ((with_reducible apply bd2g); first | with_reducible exact H.k | exact xTr0 (by omega)))); exact bd2_id _) (xr_re H.k (QR.rf h) (rg_lit rfl))
    · obtain ⟨ms, hc, -⟩ := G.q p
      simp only [fX12_atOnce, lt_d, hK_pI, gR_pI, gA_pI, gB_pI, gC_pI, gJ_pI, ms.r788, nn_s, ms.k0, ms.k5, gd_T, eq_self, hc, bd2_id, Int.reduceToNat]
      exact MR.of (by (repeat' (first | (with_reducible refine ltg ?_) | ((with_reducible refine iteT ?_ ?_); omega) | ((with_reducible refine iteF ?_ ?_); omega) | ((with_reducible refine gdg ?_ ?_); first | exact rTr0 (by omega) | omega) | ((with_reducible apply nng); first | exact rTr0 (by omega)) | ((with_reducible apply bdg); first | exact rTr0 (by omega)) | ((with_reducible apply bd2g); first | exact rTr0 (by omega)))); rfl) (mr_m0r ms (rg_lit rfl))

set_option maxHeartbeats 200000 in
theorem ok_echoed {h : Hp} {X : Nat} {a l t : Int} (I : Inv h X) : OK3 (fun h => fX11_echoed h X a l t) (fun h => fX12_echoed h (X + 121) a l t) h X := by
  obtain ⟨c, J, i1, i2, i3⟩ := id I
  have H := J.x
  have G := J.m
  have w := H.wf
  by_cases q1 : 0 ≤ t ∧ t < 4
  · by_cases q2 : okS c a
    · by_cases q3 : 0 ≤ l ∧ l ≤ 15
      · have qt := q1
        have a8 := ns_lt w q2
        have hb := w.sl q2.1 a8
        obtain ⟨S, s1, s2, s3, s4, s5, s6, s7, s8⟩ := H.snd q2
        obtain ⟨h', ⟨pq, Cq, o9, rv⟩, em⟩ := xMixR H s7 s7 (by unfold SO at s8; omega) (by unfold SO at s8; omega) (later := l) (by omega) (by omega) (fun k => sL_bd w q2.1 a8) (fun k => sL_bd w q2.1 a8)
        have na : X + 99 ≠ X + 3 + 2 * t.toNat := by omega
        have nq : X + 100 ≠ X + 3 + 2 * t.toNat := by omega
        have en : max (c (4 + a).toNat) (l + c (4 + a).toNat) = c (4 + a).toNat + l := by omega
        rw [en] at rv
        have bL : ∀ k, 0 ≤ mxL c (c (4 + a).toNat + l) (sL c a) (sL c a) l k ∧ mxL c (c (4 + a).toNat + l) (sL c a) (sL c a) l k ≤ 26 := fun k => by
          unfold mxL
          split
          · exact mixS_bd w (sL_bd w q2.1 a8).1 (sL_bd w q2.1 a8).2 (sL_bd w q2.1 a8).1 (sL_bd w q2.1 a8).2
          · omega
        have n8 : 0 ≤ c (4 + a).toNat + l ∧ c (4 + a).toNat + l ≤ 31 := by omega
        have kq := Cq.k
        have e4a : WE (4 + a) := we (by have := q2.1; omega) (by omega)
        have e4l : WE (c (4 + a).toNat + l) := we (by omega) (by omega)
        have i4 : 0 ≤ 4 + a ∧ 4 + a < 1850 := by have := q2.1; omega
        have ex : fX11_echoed h X a l t = fX11_bring h' X (X + 99) t := by
          unfold fX11_echoed
          refine bdg (xTr1 q1.1 q1.2) (iteF (by omega) (gdg H.k (bdg (xSn1 H q2.1 q2.2) (iteF (by omega) (bdg (xIn1 q3.1 q3.2) (iteF (by omega) (nng s1 (gdg s2 (nng s3 (gdg s4 (gdg s5 (nng s6 (bd2g em (gdg kq ?_))))))))))))))
          exact bd2_id _
        have T := tr_q J pq (t := t.toNat) (by omega)
        have n2 : ¬ sc X (X + 121 + 2) := by unfold sc; omega
        have eh : gA h' (X + 121 + 2) t.toNat = gA h (X + 121 + 2) t.toNat := pq.a n2
        by_cases m1 : gA h (X + 121 + 2) t.toNat < 0
        · refine ok3 I J ⟨3, -1, ?_, fun h1 p => ?_⟩
          · show XR (fX11_echoed h X a l t) h X _ _
            rw [ex, xBr3 Cq T qt.1 qt.2 (by rw [eh]; exact m1)]
            exact xr_re Cq.k pq (rg_lit rfl)
          · obtain ⟨ms, hc, -⟩ := G.q p
            have hc' : gA (pI (pI h1 769 (X + 121) 0) 768 (X + 121) 0) (X + 121 + 5) = c := hc
            have rw1 := rWny (h := h) (h' := pI (pI h1 769 (X + 121) 0) 768 (X + 121) 0) (t := t) (n := (c (4 + a).toNat + l)) ms (fun i => p.a n2) qt.1 qt.2
            rw [if_pos m1] at rw1
            have z0 : gI (pI (pI (pI h1 769 (X + 121) 0) 768 (X + 121) 0) 768 (X + 121) 3) 768 (X + 121) = 3 := gI_pIs (rg_lit rfl)
            show MR (fX12_echoed h1 (X + 121) a l t) h1 X _ _
            unfold fX12_echoed
            refine MR.of ?_ (mr_st2 (st := 3) (rg_lit rfl))
            refine gdg ms.k (ltg (ltg (bdg (rTr1 qt.1 qt.2) (iteF (by omega) (nng (q := X + 121 + 5) ms.r788 (gdg ms.k5 ?_))))))
            rw [hc']
            refine bdg (rSn1 w q2.1 q2.2) (iteF (by omega) (bdg (rIn1 q3.1 q3.2) (iteF (by omega) (gdg (by show (hK h1 (X + 121 + 5)).1 = 21; rw [ms.k5]) (gdg (by show inA _ (hK h1 (X + 121 + 5)).2; rw [ms.k5, e4a.e]; exact i4) ?_)))))
            rw [e4a.e, e4l.e, lt_d]
            refine bdg rw1 ?_
            rw [lt_d, z0]
            exact iteT (by omega) rfl
        · by_cases m2 : gA h (X + 121 + 2) t.toNat < (c (4 + a).toNat + l)
          · refine ok3 I J ⟨4, -1, ?_, fun h1 p => ?_⟩
            · show XR (fX11_echoed h X a l t) h X _ _
              rw [ex, xBr4 Cq T qt.1 qt.2 rv.v (by rw [eh]; exact m1) (by rw [eh]; exact m2)]
              exact xr_re Cq.k pq (rg_lit rfl)
            · obtain ⟨ms, hc, -⟩ := G.q p
              have hc' : gA (pI (pI h1 769 (X + 121) 0) 768 (X + 121) 0) (X + 121 + 5) = c := hc
              have rw1 := rWny (h := h) (h' := pI (pI h1 769 (X + 121) 0) 768 (X + 121) 0) (t := t) (n := (c (4 + a).toNat + l)) ms (fun i => p.a n2) qt.1 qt.2
              rw [if_neg m1, if_pos m2] at rw1
              have z0 : gI (pI (pI (pI h1 769 (X + 121) 0) 768 (X + 121) 0) 768 (X + 121) 4) 768 (X + 121) = 4 := gI_pIs (rg_lit rfl)
              show MR (fX12_echoed h1 (X + 121) a l t) h1 X _ _
              unfold fX12_echoed
              refine MR.of ?_ (mr_st2 (st := 4) (rg_lit rfl))
              refine gdg ms.k (ltg (ltg (bdg (rTr1 qt.1 qt.2) (iteF (by omega) (nng (q := X + 121 + 5) ms.r788 (gdg ms.k5 ?_))))))
              rw [hc']
              refine bdg (rSn1 w q2.1 q2.2) (iteF (by omega) (bdg (rIn1 q3.1 q3.2) (iteF (by omega) (gdg (by show (hK h1 (X + 121 + 5)).1 = 21; rw [ms.k5]) (gdg (by show inA _ (hK h1 (X + 121 + 5)).2; rw [ms.k5, e4a.e]; exact i4) ?_)))))
              rw [e4a.e, e4l.e, lt_d]
              refine bdg rw1 ?_
              rw [lt_d, z0]
              exact iteT (by omega) rfl
          · have ti := tr_is (J.tr t.toNat (by omega)) m1
            obtain ⟨t', ⟨o1, c1⟩, e1⟩ := xBr0 Cq T qt.1 qt.2 rv na nq bL (by rw [eh]; exact m1) (by rw [eh]; omega)
            have e2 : fX11_echoed h X a l t = some ((c (4 + a).toNat + l), pI t' 721 X 0) := ex.trans e1
            have p1 : FL [3, 5, 7, 9] [] X h (pI t' 721 X 0) := by
              refine ((fl_q pq).tr (fl_on o1 (fun b hb => Or.inr ⟨3 + 2 * t.toNat, ?_, by omega⟩))).tr (fl_q (q_pI t' (Or.inl ⟨rfl, rfl⟩)))
              have t5 : t.toNat = 0 ∨ t.toNat = 1 ∨ t.toNat = 2 ∨ t.toNat = 3 := by omega
              rcases t5 with z | z | z | z <;> rw [z] <;> decide
            have G1 := G.fl p1 J.z (by decide +kernel)
            have e3 : ∀ i, gA (pI t' 721 X 0) (X + 121 + 2) i = gA h (X + 121 + 2) i := fun i => by rw [gA_pI, o1.a (by omega)]; exact pq.a n2
            have iv := fun h3 h4 => inv_bring (h3 := h3) (h4 := h4) (n := ((c (4 + a).toNat + l)).toNat) (v := fun q => mxL c (c (4 + a).toNat + l) (sL c a) (sL c a) l (q : Int)) J i2 i3 (show t.toNat < 4 by omega) (by omega) pq o1 c1
            generalize pI t' 721 X 0 = h1 at e2 G1 e3 iv
            obtain ⟨ms, hc, -⟩ := G1
            have rw1 := rWny (h := h) (h' := pI (pI h1 769 (X + 121) 0) 768 (X + 121) 0) (t := t) (n := (c (4 + a).toNat + l)) ms e3 qt.1 qt.2
            rw [if_neg m1, if_neg m2] at rw1
            have z0 : gI (pI (pI (pI h1 769 (X + 121) 0) 768 (X + 121) 0) 768 (X + 121) 0) 768 (X + 121) = 0 := gI_pIs (rg_lit rfl)
            have hc' : gA (pI (pI h1 769 (X + 121) 0) 768 (X + 121) 0) (X + 121 + 5) = c := hc
            have ms' : MS (pI (pI (pI h1 769 (X + 121) 0) 768 (X + 121) 0) 768 (X + 121) 0) (X + 121) := ms
            obtain ⟨h4, ⟨o4, c4⟩, e4⟩ := rFiT (fun fu s i => fX12_echoed_b91 (X + 121) a l t fu s (c (4 + a).toNat + l) i) (h := pI (pI (pI h1 769 (X + 121) 0) 768 (X + 121) 0) 768 (X + 121) 0) (M := X + 121) (n := ((c (4 + a).toNat + l)).toNat) (t := t) (r := (c (4 + a).toNat + l)) (fun q => mxL c (c (4 + a).toNat + l) (sL c a) (sL c a) l (q : Int)) ms' (fun i hi => by have b := bL (i : Int); exact b) qt.1 qt.2 (by omega)
              (fun fu s i hi os => by
                have k5 : hK s (X + 121 + 5) = (21, 1850) := os.ka ms.k5
                have km : (hK s (X + 121)).1 = 12 := by rw [os.k]; exact ms.k
                have r5 : gR s 788 (X + 121) = some (X + 121 + 5) := by rw [os.r (by omega)]; exact ms.r788
                have hcs : gA s (X + 121 + 5) = c := by rw [os.af (by omega)]; exact hc
                have e5 : WE ((i : Int) + 1) := we (by omega) (by omega)
                rw [fX12_echoed_b91.eq_2]
                refine iteT (by omega) (gdg km (nng r5 (gdg k5 ?_)))
                rw [hcs]
                have ew9 : WE ((i : Int) - l) := we (by omega) (by omega)
                have em9 : mxL c (c (4 + a).toNat + l) (sL c a) (sL c a) l (i : Int) = mixS c (sL c a (i : Int)) (sL c a ((i : Int) - l)) := by
                  unfold mxL
                  rw [if_pos (by omega)]
                rw [ew9.e]
                refine bdg (rSndO w q2.1 a8 (by unfold rg; omega)) (gdg k5 (bdg (rSndO w q2.1 a8 (by unfold rg; omega)) (gdg k5 (bdg (rMix w) ?_))))
                simp only [lt_d, e5.e, em9]
                )
              (fun fu s os => by
                rw [show ((((c (4 + a).toNat + l)).toNat : Nat) : Int) = (c (4 + a).toNat + l) by omega]
                rw [fX12_echoed_b91.eq_2]
                exact iteF (by omega) rfl)
            refine ⟨(c (4 + a).toNat + l), h1, h4, e2, ?_, iv _ h4 ((m0_q h1 X).tr (q_pI _ ⟨rfl, by omega⟩)) z0 o4 c4⟩
            show fX12_echoed h1 (X + 121) a l t = _
            unfold fX12_echoed
            refine gdg ms.k (ltg (ltg (bdg (rTr1 qt.1 qt.2) (iteF (by omega) (nng (q := X + 121 + 5) ms.r788 (gdg ms.k5 ?_))))))
            rw [hc']
            refine bdg (rSn1 w q2.1 q2.2) (iteF (by omega) (bdg (rIn1 q3.1 q3.2) (iteF (by omega) (gdg (by show (hK h1 (X + 121 + 5)).1 = 21; rw [ms.k5]) (gdg (by show inA _ (hK h1 (X + 121 + 5)).2; rw [ms.k5, e4a.e]; exact i4) ?_)))))
            rw [e4a.e, e4l.e, lt_d]
            refine bdg rw1 ?_
            rw [lt_d, z0]
            exact iteF (by omega) e4
      · refine ok3 I J ⟨5, -1, ?_, fun h1 p => ?_⟩
        · show XR (fX11_echoed h X a l t) h X _ _
          unfold fX11_echoed
          exact XR.of (by (have z_1 := xTr1 q1.1 q1.2; have z_2 := xSn1 H q2.1 q2.2; (repeat' (first | (with_reducible refine ltg ?_) | ((with_reducible refine iteT ?_ ?_); omega) | ((with_reducible refine iteF ?_ ?_); omega) | ((with_reducible refine gdg ?_ ?_); first | with_reducible exact H.k | with_reducible exact z_1 | with_reducible exact z_2 | exact xIn0 (by omega) | omega) | ((with_reducible apply nng); first | with_reducible exact H.k | with_reducible exact z_1 | with_reducible exact z_2 | exact xIn0 (by omega)) | ((with_reducible apply bdg); first | with_reducible exact H.k | with_reducible exact z_1 | with_reducible exact z_2 | exact xIn0 (by omega)) | ((with_reducible apply bd2g); first | with_reducible exact H.k | with_reducible exact z_1 | with_reducible exact z_2 | exact xIn0 (by omega))))); exact bd2_id _) (xr_re H.k (QR.rf h) (rg_lit rfl))
        · obtain ⟨ms, hc, -⟩ := G.q p
          simp only [fX12_echoed, lt_d, hK_pI, gR_pI, gA_pI, gB_pI, gC_pI, gJ_pI, ms.r788, nn_s, ms.k0, ms.k5, gd_T, eq_self, hc, bd2_id, Int.reduceToNat]
          exact MR.of (by (have z_0 := rTr1 q1.1 q1.2; have z_1 := rSn1 w q2.1 q2.2; (repeat' (first | (with_reducible refine ltg ?_) | ((with_reducible refine iteT ?_ ?_); omega) | ((with_reducible refine iteF ?_ ?_); omega) | ((with_reducible refine gdg ?_ ?_); first | with_reducible exact z_0 | with_reducible exact z_1 | exact rIn0 (by omega) | omega) | ((with_reducible apply nng); first | with_reducible exact z_0 | with_reducible exact z_1 | exact rIn0 (by omega)) | ((with_reducible apply bdg); first | with_reducible exact z_0 | with_reducible exact z_1 | exact rIn0 (by omega)) | ((with_reducible apply bd2g); first | with_reducible exact z_0 | with_reducible exact z_1 | exact rIn0 (by omega))))); rfl) (mr_m0r ms (rg_lit rfl))
    · refine ok3 I J ⟨2, -1, ?_, fun h1 p => ?_⟩
      · show XR (fX11_echoed h X a l t) h X _ _
        unfold fX11_echoed
        exact XR.of (by (have z_1 := xTr1 q1.1 q1.2; have z_2 := xSn0 H (noS q2); (repeat' (first | (with_reducible refine ltg ?_) | ((with_reducible refine iteT ?_ ?_); omega) | ((with_reducible refine iteF ?_ ?_); omega) | ((with_reducible refine gdg ?_ ?_); first | with_reducible exact H.k | with_reducible exact z_1 | with_reducible exact z_2 | omega) | ((with_reducible apply nng); first | with_reducible exact H.k | with_reducible exact z_1 | with_reducible exact z_2) | ((with_reducible apply bdg); first | with_reducible exact H.k | with_reducible exact z_1 | with_reducible exact z_2) | ((with_reducible apply bd2g); first | with_reducible exact H.k | with_reducible exact z_1 | with_reducible exact z_2)))); exact bd2_id _) (xr_re H.k (QR.rf h) (rg_lit rfl))
      · obtain ⟨ms, hc, -⟩ := G.q p
        simp only [fX12_echoed, lt_d, hK_pI, gR_pI, gA_pI, gB_pI, gC_pI, gJ_pI, ms.r788, nn_s, ms.k0, ms.k5, gd_T, eq_self, hc, bd2_id, Int.reduceToNat]
        exact MR.of (by (have z_0 := rTr1 q1.1 q1.2; have z_1 := rSn0 w (noS q2); (repeat' (first | (with_reducible refine ltg ?_) | ((with_reducible refine iteT ?_ ?_); omega) | ((with_reducible refine iteF ?_ ?_); omega) | ((with_reducible refine gdg ?_ ?_); first | with_reducible exact z_0 | with_reducible exact z_1 | omega) | ((with_reducible apply nng); first | with_reducible exact z_0 | with_reducible exact z_1) | ((with_reducible apply bdg); first | with_reducible exact z_0 | with_reducible exact z_1) | ((with_reducible apply bd2g); first | with_reducible exact z_0 | with_reducible exact z_1)))); rfl) (mr_m0r ms (rg_lit rfl))
  · refine ok3 I J ⟨1, -1, ?_, fun h1 p => ?_⟩
    · show XR (fX11_echoed h X a l t) h X _ _
      unfold fX11_echoed
      exact XR.of (by (repeat' (first | (with_reducible refine ltg ?_) | ((with_reducible refine iteT ?_ ?_); omega) | ((with_reducible refine iteF ?_ ?_); omega) | ((with_reducible refine gdg ?_ ?_); first | with_reducible exact H.k | exact xTr0 (by omega) | omega) | ((with_reducible apply nng); first | with_reducible exact H.k | exact xTr0 (by omega)) | ((with_reducible apply bdg); first | with_reducible exact H.k | exact xTr0 (by omega)) | ((with_reducible apply bd2g); first | with_reducible exact H.k | exact xTr0 (by omega)))); exact bd2_id _) (xr_re H.k (QR.rf h) (rg_lit rfl))
    · obtain ⟨ms, hc, -⟩ := G.q p
      simp only [fX12_echoed, lt_d, hK_pI, gR_pI, gA_pI, gB_pI, gC_pI, gJ_pI, ms.r788, nn_s, ms.k0, ms.k5, gd_T, eq_self, hc, bd2_id, Int.reduceToNat]
      exact MR.of (by (repeat' (first | (with_reducible refine ltg ?_) | ((with_reducible refine iteT ?_ ?_); omega) | ((with_reducible refine iteF ?_ ?_); omega) | ((with_reducible refine gdg ?_ ?_); first | exact rTr0 (by omega) | omega) | ((with_reducible apply nng); first | exact rTr0 (by omega)) | ((with_reducible apply bdg); first | exact rTr0 (by omega)) | ((with_reducible apply bd2g); first | exact rTr0 (by omega)))); rfl) (mr_m0r ms (rg_lit rfl))
