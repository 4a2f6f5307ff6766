/-! STATE: trays (written by wip/whole/g62.py) -/
set_option maxHeartbeats 200000 in
theorem JC.trs {h h' : Hp} {X : Nat} {c : Nat → Int} (J : JC h X c) (p : FL [3, 5, 7, 9, 122, 123, 124] [(641, 2), (641, 4), (641, 6), (641, 8), (642, 2), (642, 4), (642, 6), (642, 8)] X h h') (t : TR h' X) : JC h' X c :=
  ⟨J.x.fl J.b p (by decide +kernel) (by decide +kernel), J.m.fl p J.z (by decide +kernel), J.b.fl p (by decide +kernel) (by decide +kernel), t, J.tp.fl p J.z (by decide +kernel), J.mk.fl p J.z (by decide +kernel) (fun _ _ => rfl), J.rd.fl p J.z (by decide +kernel), J.mg.fl p J.z (by decide +kernel), J.cn.fl p J.z (by decide +kernel), J.sf.fl p J.z (by decide +kernel)⟩
set_option maxHeartbeats 200000 in
theorem inv_tr {h h' : Hp} {X : Nat} {c : Nat → Int} (J : JC h X c) (p : FL [3, 5, 7, 9, 122, 123, 124] [(641, 2), (641, 4), (641, 6), (641, 8), (642, 2), (642, 4), (642, 6), (642, 8)] X h h') (t : TR h' X) (i2 : gJ h 722 X = gJ h 770 (X + 121)) (i3 : gJ h 723 X = gJ h 771 (X + 121)) (s : gI h' 721 X = gI h' 768 (X + 121)) : Inv h' X := by
  refine ⟨c, J.trs p t, s, ?_, ?_⟩
  · rw [(p.f0 J.z (f := 722) (by decide +kernel)).2.1, (p.fi J.z (f := 770) (i := 121) (by decide +kernel)).2.1]; exact i2
  · rw [(p.f0 J.z (f := 723) (by decide +kernel)).2.1, (p.fi J.z (f := 771) (i := 121) (by decide +kernel)).2.1]; exact i3
set_option maxHeartbeats 200000 in
/-- the same numbers come to the same places of a tray, on both sides -/
theorem TR.put {h h' : Hp} {X t : Nat} (H : TR h X) (z : X + 144 ≤ hZ h) (p : FL [3, 5, 7, 9, 124] [] X h h') (P : Nat → Prop) (v : Nat → Int)
    (e1 : ∀ q, q < 60 → P q → gB h' (X + 3 + 2 * t) q = v q) (e0 : ∀ q, q < 60 → ¬ P q → gB h' (X + 3 + 2 * t) q = gB h (X + 3 + 2 * t) q)
    (e2 : ∀ q, q < 60 → P q → gB h' (X + 121 + 3) (60 * t + q) = v q) (e3 : ∀ t' q, t' < 4 → q < 60 → (t' = t → ¬ P q) → gB h' (X + 121 + 3) (60 * t' + q) = gB h (X + 121 + 3) (60 * t' + q))
    (e4 : ∀ t', t' < 4 → t' ≠ t → ∀ q, gB h' (X + 3 + 2 * t') q = gB h (X + 3 + 2 * t') q) : TR h' X := by
  intro t' ht
  have d1 : kF [3, 5, 7, 9, 124] [] 641 (2 + 2 * t') = true ∧ kF [3, 5, 7, 9, 124] [] 642 (2 + 2 * t') = true := by
    have : t' = 0 ∨ t' = 1 ∨ t' = 2 ∨ t' = 3 := by omega
    rcases this with rfl | rfl | rfl | rfl <;> decide +kernel
  have q1 : ∀ k, gA h' (X + 121 + 1) k = gA h (X + 121 + 1) k := (p.ro z (i := 122) (by decide +kernel)).1
  have q2 : ∀ k, gA h' (X + 121 + 2) k = gA h (X + 121 + 2) k := (p.ro z (i := 123) (by decide +kernel)).1
  have q4 := (p.fi z d1.1).1
  have q5 := (p.fi z d1.2).1
  rw [show X + (2 + 2 * t') = X + 2 + 2 * t' by omega] at q4 q5
  unfold TRt
  rw [q1, q2, q4, q5]
  rcases H t' ht with h1 | ⟨h1, h2, h3, h4, h5⟩
  · exact Or.inl h1
  · refine Or.inr ⟨h1, h2, h3, h4, fun q hq => ?_⟩
    have q60 : q < 60 := by omega
    by_cases y : t' = t
    · subst y
      by_cases y2 : P q
      · rw [e1 q q60 y2, e2 q q60 y2]
      · rw [e0 q q60 y2, e3 t' q ht q60 (fun _ => y2)]
        exact h5 q hq
    · rw [e4 t' ht y, e3 t' q ht q60 (fun x => absurd x y)]
      exact h5 q hq
/-! what a tray is -/
set_option maxHeartbeats 200000 in
theorem tr_mis {h : Hp} {X t : Nat} (H : TRt h X t) (q : gA h (X + 121 + 2) t < 0) : gA h (X + 121 + 2) t = -1 ∧ gI h 641 (X + 2 + 2 * t) = -1 := by
  rcases H with h1 | ⟨h1, -⟩
  · exact h1
  · omega
set_option maxHeartbeats 200000 in
theorem tr_is {h : Hp} {X t : Nat} (H : TRt h X t) (q : ¬ gA h (X + 121 + 2) t < 0) : (0 ≤ gA h (X + 121 + 2) t ∧ gA h (X + 121 + 2) t ≤ 60) ∧ (0 ≤ gA h (X + 121 + 1) t ∧ gA h (X + 121 + 1) t ≤ 3) ∧ gI h 641 (X + 2 + 2 * t) = gA h (X + 121 + 1) t ∧ gI h 642 (X + 2 + 2 * t) = gA h (X + 121 + 2) t ∧
    ∀ p : Nat, (p : Int) < gA h (X + 121 + 2) t → gB h (X + 3 + 2 * t) p = gB h (X + 121 + 3) (60 * t + p) := by
  rcases H with h1 | h1
  · omega
  · exact h1
set_option maxHeartbeats 200000 in
/-- the class's tray objects -/
theorem XS.tray {h : Hp} {X : Nat} (H : XS h X) {t : Int} (t0 : 0 ≤ t) (t4 : t < 4) : gR h 704 X = some (X + 1) ∧ (hK h (X + 1)).1 = 27 ∧ inA t (hK h (X + 1)).2 ∧ gC h (X + 1) t.toNat = some (X + 2 + 2 * t.toNat) ∧ (hK h (X + 2 + 2 * t.toNat)).1 = 10 ∧ hK h (X + 3 + 2 * t.toNat) = (22, 60) ∧ gR h 640 (X + 2 + 2 * t.toNat) = some (X + 3 + 2 * t.toNat) := by
  obtain ⟨k1, k2, k3⟩ := H.kTray (t := t.toNat) (by omega)
  exact ⟨H.r704, by rw [H.k1], by rw [H.k1]; exact ⟨t0, t4⟩, H.cTray (by omega), by rw [k1], k2, k3⟩
set_option maxHeartbeats 200000 in
theorem xMis {h : Hp} {T : Nat} (k : (hK h T).1 = 10) : fX10_isMissing h T = some (if gI h 641 T = -1 then 1 else 0) := by
  unfold fX10_isMissing
  exact gdg k rfl
set_option maxHeartbeats 200000 in
theorem xMis1 {h : Hp} {X : Nat} {t : Nat} (H : TRt h X t) (k : (hK h (X + 2 + 2 * t)).1 = 10) (q : gA h (X + 121 + 2) t < 0) : fX10_isMissing h (X + 2 + 2 * t) = some 1 := by
  rw [xMis k, if_pos (tr_mis H q).2]
set_option maxHeartbeats 200000 in
theorem xMis0 {h : Hp} {X : Nat} {t : Nat} (H : TRt h X t) (k : (hK h (X + 2 + 2 * t)).1 = 10) (q : ¬ gA h (X + 121 + 2) t < 0) : fX10_isMissing h (X + 2 + 2 * t) = some 0 := by
  have h1 := tr_is H q
  rw [xMis k, if_neg (by omega)]
set_option maxHeartbeats 200000 in
theorem xRun1 {h : Hp} {T : Nat} {a b : Int} (k : (hK h T).1 = 10) (ra : rg a) (rb : rg b) (q : 0 ≤ a ∧ 0 ≤ b ∧ a + b ≤ gI h 642 T) : fX10_hasRun h T a b = some 1 := by
  unfold rg at ra rb
  unfold fX10_hasRun
  refine iteF (by omega) (iteF (by omega) (gdg k ?_))
  rw [w64_id (by omega) (by omega)]
  exact iteF (by omega) rfl
set_option maxHeartbeats 200000 in
theorem xRun0 {h : Hp} {T : Nat} {a b : Int} (k : (hK h T).1 = 10) (ra : rg a) (rb : rg b) (q : ¬ (0 ≤ a ∧ 0 ≤ b ∧ a + b ≤ gI h 642 T)) : fX10_hasRun h T a b = some 0 := by
  unfold rg at ra rb
  unfold fX10_hasRun
  by_cases h1 : a < 0
  · exact iteT h1 rfl
  · by_cases h2 : b < 0
    · exact iteF h1 (iteT h2 rfl)
    · refine iteF h1 (iteF h2 (gdg k ?_))
      rw [w64_id (by omega) (by omega)]
      exact iteT (by omega) rfl
/-- what a number becomes in a tray of sort s -/
def cutS (s v : Int) : Int := if s = 0 then tby (w32 v) else if s = 1 then tsh (w32 v) else if s = 2 then w32 v else v
set_option maxHeartbeats 200000 in
theorem rCut (s v : Int) : fX12_cut s v = some (cutS s v) := by
  unfold fX12_cut cutS
  split
  · rfl
  · split
    · rfl
    · split <;> rfl
set_option maxHeartbeats 200000 in
theorem xCut {h : Hp} {T : Nat} {v : Int} (k : (hK h T).1 = 10) : fX10_cut h T v = some (cutS (gI h 641 T) v) := by
  unfold fX10_cut cutS
  refine gdg k ?_
  split
  · rfl
  · split
    · rfl
    · split <;> rfl
set_option maxHeartbeats 200000 in
theorem cut_f : ∀ n : Fin 27, tby ((n.val : Nat) : Int) = ((n.val : Nat) : Int) ∧ tsh ((n.val : Nat) : Int) = ((n.val : Nat) : Int) := by decide +kernel
set_option maxHeartbeats 200000 in
theorem cut_l {s v : Int} (v0 : 0 ≤ v) (v8 : v ≤ 26) : cutS s v = v := by
  obtain ⟨n, rfl⟩ := i2n v0
  have f := cut_f ⟨n, by omega⟩
  have e : w32 (n : Int) = (n : Int) := w32_id (by omega) (by omega)
  unfold cutS
  rw [e]
  split
  · exact f.1
  · split
    · exact f.2
    · split <;> rfl
set_option maxHeartbeats 200000 in
/-- a number put into a tray of the class -/
theorem xPut {h : Hp} {X : Nat} {t : Nat} {p v : Int} (k : (hK h (X + 2 + 2 * t)).1 = 10) (r : gR h 640 (X + 2 + 2 * t) = some (X + 3 + 2 * t)) (k2 : hK h (X + 3 + 2 * t) = (22, 60)) (p0 : 0 ≤ p) (p8 : p < gI h 642 (X + 2 + 2 * t)) (p9 : p < 60) : fX10_put h (X + 2 + 2 * t) p v = some (sB h (X + 3 + 2 * t) p (cutS (gI h 641 (X + 2 + 2 * t)) v)) := by
  unfold fX10_put
  refine gdg k (bdg (xRun1 k (by unfold rg; omega) (rg_lit rfl) ⟨p0, by omega, by omega⟩) (iteF (by omega) (nng r (bdg (xCut k) (gdg (by rw [k2]) (gdg (by rw [k2]; show 0 ≤ _ ∧ _ < (60 : Int); omega) ?_))))))
  rw [lt_d]
set_option maxHeartbeats 200000 in
theorem xGet {h : Hp} {X : Nat} {t : Nat} {p : Int} (k : (hK h (X + 2 + 2 * t)).1 = 10) (r : gR h 640 (X + 2 + 2 * t) = some (X + 3 + 2 * t)) (k2 : hK h (X + 3 + 2 * t) = (22, 60)) (p0 : 0 ≤ p) (p8 : p < gI h 642 (X + 2 + 2 * t)) (p9 : p < 60) : fX10_get h (X + 2 + 2 * t) p = some (gB h (X + 3 + 2 * t) p.toNat) := by
  unfold fX10_get
  exact gdg k (bdg (xRun1 k (by unfold rg; omega) (rg_lit rfl) ⟨p0, by omega, by omega⟩) (iteF (by omega) (nng r (gdg (by rw [k2]) (gdg (by rw [k2]; show 0 ≤ _ ∧ _ < (60 : Int); omega) rfl)))))
/-! the reason of a place: write, read -/
def prS (h : Hp) (X : Nat) (t k : Int) : Int := if 0 ≤ t ∧ t < 4 then (if gA h (X + 121 + 2) t.toNat < 0 then 3 else if 0 ≤ k ∧ k < gA h (X + 121 + 2) t.toNat then 0 else 4) else 1
set_option maxHeartbeats 200000 in
theorem prS_rg (h : Hp) (X : Nat) (t k : Int) : 0 ≤ prS h X t k ∧ prS h X t k ≤ 4 := by
  unfold prS
  split
  · split
    · omega
    · split <;> omega
  · omega
set_option maxHeartbeats 200000 in
theorem xPlr {h : Hp} {X : Nat} {c : Nat → Int} {t k : Int} (J : JC h X c) (rk : rg k) : fX11_placeReason h X t k = some (prS h X t k) := by
  have H := J.x
  unfold fX11_placeReason prS
  by_cases q : 0 ≤ t ∧ t < 4
  · obtain ⟨a1, a2, a3, a4, a5, a6, a7⟩ := H.1.tray q.1 q.2
    rw [if_pos q]
    have tr := J.tr t.toNat (by omega)
    refine bdg (xTr1 q.1 q.2) (iteF (by omega) (gdg H.k (nng a1 (gdg a2 (gdg a3 (nng a4 (gdg a5 ?_)))))))
    by_cases q2 : gA h (X + 121 + 2) t.toNat < 0
    · rw [if_pos q2]
      exact bdg (xMis1 tr a5 q2) (iteF (by omega) rfl)
    · rw [if_neg q2]
      have ti := tr_is tr q2
      refine bdg (xMis0 tr a5 q2) (iteT rfl (gdg a3 (nng a4 (gdg a5 ?_))))
      by_cases q3 : 0 ≤ k ∧ k < gA h (X + 121 + 2) t.toNat
      · rw [if_pos q3]
        exact bdg (xRun1 a5 rk (rg_lit rfl) (by omega)) (by rw [if_neg (by omega)])
      · rw [if_neg q3]
        exact bdg (xRun0 a5 rk (rg_lit rfl) (by omega)) (by rw [if_pos rfl])
  · rw [if_neg q]
    exact bdg (xTr0 (by omega)) (iteT rfl rfl)
set_option maxHeartbeats 200000 in
theorem rPlc {h h' : Hp} {X : Nat} {t k : Int} (ms : MS h' (X + 121)) (e : ∀ i, gA h' (X + 121 + 2) i = gA h (X + 121 + 2) i) : fX12_placed h' (X + 121) t k = some (prS h X t k) := by
  unfold fX12_placed prS
  by_cases q : 0 ≤ t ∧ t < 4
  · rw [if_pos q]
    refine gdg ms.k ?_
    unfold fX12_trayed
    by_cases q2 : gA h (X + 121 + 2) t.toNat < 0
    · rw [if_pos q2]
      refine bdg (q := 3) (iteF (by omega) (iteT q.2 (gdg ms.k (nng ms.r773 (gdg (by rw [ms.k2]) (gdg (by rw [ms.k2]; exact ⟨q.1, q.2⟩) (iteT (by rw [e]; exact q2) rfl))))))) ?_
      exact iteT (by omega) rfl
    · rw [if_neg q2]
      refine bdg (q := 0) (iteF (by omega) (iteT q.2 (gdg ms.k (nng ms.r773 (gdg (by rw [ms.k2]) (gdg (by rw [ms.k2]; exact ⟨q.1, q.2⟩) (iteF (by rw [e]; exact q2) rfl))))))) ?_
      refine iteF (by omega) ?_
      by_cases q3 : 0 ≤ k ∧ k < gA h (X + 121 + 2) t.toNat
      · rw [if_pos q3]
        exact iteF (by omega) (nng ms.r773 (gdg (by rw [ms.k2]) (gdg (by rw [ms.k2]; exact ⟨q.1, q.2⟩) (iteT (by rw [e]; exact q3.2) rfl))))
      · rw [if_neg q3]
        by_cases q4 : k < 0
        · exact iteT q4 rfl
        · exact iteF q4 (nng ms.r773 (gdg (by rw [ms.k2]) (gdg (by rw [ms.k2]; exact ⟨q.1, q.2⟩) (iteF (by rw [e]; omega) rfl))))
  · rw [if_neg q]
    refine gdg ms.k (bdg (q := 1) ?_ (iteT (by omega) rfl))
    unfold fX12_trayed
    by_cases q2 : t < 0
    · exact iteT q2 rfl
    · exact iteF q2 (iteF (by omega) rfl)
set_option maxHeartbeats 200000 in
theorem mr_st {h : Hp} {X : Nat} {st v : Int} (r : rg st) : MR (some (v, pI (pI h 769 (X + 121) 0) 768 (X + 121) st)) h X st v :=
  mr_some ((q_pI h ⟨rfl, by omega⟩).tr (q_pI _ ⟨rfl, by omega⟩)) (gI_pIs r)
set_option maxHeartbeats 200000 in
theorem ok_write {h : Hp} {X : Nat} {t k v : Int} (I : Inv h X) (rk : rg k) : OK3 (fun h => fX11_write h X t k v) (fun h => fX12_write h (X + 121) t k v) h X := by
  obtain ⟨c, J, i1, i2, i3⟩ := id I
  have H := J.x
  have G := J.m
  have xp := xPlr (t := t) J rk
  have pr := prS_rg h X t k
  by_cases q : prS h X t k = 0
  · have qq := q
    unfold prS at qq
    have t4 : 0 ≤ t ∧ t < 4 := by
      apply Classical.byContradiction
      intro z
      rw [if_neg z] at qq
      omega
    rw [if_pos t4] at qq
    have q2 : ¬ gA h (X + 121 + 2) t.toNat < 0 := by
      intro z
      rw [if_pos z] at qq
      omega
    rw [if_neg q2] at qq
    have q3 : 0 ≤ k ∧ k < gA h (X + 121 + 2) t.toNat := by
      apply Classical.byContradiction
      intro z
      rw [if_neg z] at qq
      omega
    clear qq
    obtain ⟨a1, a2, a3, a4, a5, a6, a7⟩ := H.1.tray t4.1 t4.2
    have ti := tr_is (J.tr t.toNat (by omega)) q2
    obtain ⟨n, en⟩ := i2n q3.1
    obtain ⟨u, eu⟩ := i2n t4.1
    have e60 : WE (60 * t) := we (by omega) (by omega)
    have e61 : WE (60 * t + k) := we (by omega) (by omega)
    have e1 : fX11_write h X t k v = some (1, pI (sB h (X + 3 + 2 * t.toNat) k (cutS (gI h 641 (X + 2 + 2 * t.toNat)) v)) 721 X 0) := by
      unfold fX11_write
      rw [q] at xp
      refine gdg H.k (bdg xp (iteT rfl (nng a1 (gdg a2 (gdg a3 (nng a4 (gdg a5 (bdg (xPut a5 a7 a6 q3.1 (by omega) (by omega)) (gdg H.k ?_)))))))))
      unfold fX11_allow
      exact bd2g (gdg H.k rfl) rfl
    have p1 : FL [3, 5, 7, 9, 124] [] X h (pI (sB h (X + 3 + 2 * t.toNat) k (cutS (gI h 641 (X + 2 + 2 * t.toNat)) v)) 721 X 0) := by
      refine FL.tr (fl_sB h (3 + 2 * t.toNat) (by omega) ?_) (fl_q (q_pI _ (Or.inl ⟨rfl, rfl⟩)))
      have : t.toNat = 0 ∨ t.toNat = 1 ∨ t.toNat = 2 ∨ t.toNat = 3 := by omega
      rcases this with z | z | z | z <;> rw [z] <;> decide
    have x1 : ∀ a q, gB (pI (sB h (X + 3 + 2 * t.toNat) k (cutS (gI h 641 (X + 2 + 2 * t.toNat)) v)) 721 X 0) a q = if a = X + 3 + 2 * t.toNat ∧ q = k.toNat then w64 (cutS (gA h (X + 121 + 1) t.toNat) v) else gB h a q := fun a q => by rw [gB_pI, gB_sB, ti.2.2.1]
    have x2 : gI (pI (sB h (X + 3 + 2 * t.toNat) k (cutS (gI h 641 (X + 2 + 2 * t.toNat)) v)) 721 X 0) 721 X = 0 := gI_pIs (rg_lit rfl)
    have x3 : ∀ a i, gA (pI (sB h (X + 3 + 2 * t.toNat) k (cutS (gI h 641 (X + 2 + 2 * t.toNat)) v)) 721 X 0) a i = gA h a i := fun a i => rfl
    have G1 : CM (pI (sB h (X + 3 + 2 * t.toNat) k (cutS (gI h 641 (X + 2 + 2 * t.toNat)) v)) 721 X 0) X c := G.fl p1 J.z (by decide +kernel)
    generalize pI (sB h (X + 3 + 2 * t.toNat) k (cutS (gI h 641 (X + 2 + 2 * t.toNat)) v)) 721 X 0 = h1 at e1 p1 x1 x2 x3 G1
    obtain ⟨ms, hc, -⟩ := G1
    have rp := rPlc (h := h) (h' := pI h1 769 (X + 121) 0) (t := t) (k := k) ms (fun i => x3 _ i)
    rw [q] at rp
    have z0 : gI (pI (pI h1 769 (X + 121) 0) 768 (X + 121) 0) 768 (X + 121) = 0 := gI_pIs (rg_lit rfl)
    have e2 : fX12_write h1 (X + 121) t k v = some (1, sB (pI (pI h1 769 (X + 121) 0) 768 (X + 121) 0) (X + 121 + 3) (60 * t + k) (cutS (gA h (X + 121 + 1) t.toNat) v)) := by
      unfold fX12_write
      refine gdg ms.k ?_
      rw [lt_d]
      refine bdg rp ?_
      rw [lt_d, z0, e60.e, e61.e]
      have z1 : gA (pI (pI h1 769 (X + 121) 0) 768 (X + 121) 0) (X + 121 + 1) t.toNat = gA h (X + 121 + 1) t.toNat := x3 _ _
      refine iteF (by omega) (nng ms.r774 (nng ms.r772 (gdg ?_ (gdg ?_ ?_))))
      · show (hK h1 (X + 121 + 1)).1 = 21
        rw [ms.k1]
      · show inA t (hK h1 (X + 121 + 1)).2
        rw [ms.k1]; exact ⟨t4.1, t4.2⟩
      · rw [z1]
        refine bdg (rCut _ _) (gdg ?_ (gdg ?_ ?_))
        · show (hK h1 (X + 121 + 3)).1 = 22
          rw [ms.k3]
        · show inA _ (hK h1 (X + 121 + 3)).2
          rw [ms.k3]; show 0 ≤ _ ∧ _ < (240 : Int); omega
        · rw [lt_d]
    have p2 : FL [3, 5, 7, 9, 124] [] X h1 (sB (pI (pI h1 769 (X + 121) 0) 768 (X + 121) 0) (X + 121 + 3) (60 * t + k) (cutS (gA h (X + 121 + 1) t.toNat) v)) := (fl_m (m0_q h1 X)).tr (fl_sB _ 124 rfl (by decide))
    have p3 : FL [3, 5, 7, 9, 122, 123, 124] [(641, 2), (641, 4), (641, 6), (641, 8), (642, 2), (642, 4), (642, 6), (642, 8)] X h (sB (pI (pI h1 769 (X + 121) 0) 768 (X + 121) 0) (X + 121 + 3) (60 * t + k) (cutS (gA h (X + 121 + 1) t.toNat) v)) := (p1.tr p2).mono (by decide) (by decide)
    have y1 : ∀ a q, gB (sB (pI (pI h1 769 (X + 121) 0) 768 (X + 121) 0) (X + 121 + 3) (60 * t + k) (cutS (gA h (X + 121 + 1) t.toNat) v)) a q = if a = X + 121 + 3 ∧ q = (60 * t + k).toNat then w64 (cutS (gA h (X + 121 + 1) t.toNat) v) else gB h1 a q := fun a q => by rw [gB_sB, gB_pI, gB_pI]
    refine ⟨1, h1, _, e1, e2, inv_tr J p3 ?_ i2 i3 ?_⟩
    · refine J.tr.put (t := t.toNat) J.z (p1.tr p2) (fun q => q = k.toNat) (fun _ => w64 (cutS (gA h (X + 121 + 1) t.toNat) v)) ?_ ?_ ?_ ?_ ?_
      · intro q q60 e
        rw [y1, if_neg (by omega), x1, if_pos ⟨rfl, e⟩]
      · intro q q60 e
        rw [y1, if_neg (by omega), x1, if_neg (fun z => e z.2)]
      · intro q q60 e
        have e : q = k.toNat := e
        rw [y1, if_pos ⟨rfl, by omega⟩]
      · intro t' q t8 q60 e
        rw [y1, if_neg (fun z => by have z2 := z.2; exact e (by omega) (by omega)), x1, if_neg (by omega)]
      · intro t' t8 ne q
        rw [y1, if_neg (by omega), x1, if_neg (by omega)]
    · rw [gI_sB, gI_n (by omega), gI_n (by omega), x2]
      exact z0.symm
  · refine ok3 I J ⟨prS h X t k, 0, ?_, fun h1 p => ?_⟩
    · show XR (fX11_write h X t k v) h X _ _
      unfold fX11_write
      exact XR.of (gdg H.k (bdg xp (iteF q (bd2_id _)))) (xr_de H.k (QR.rf h) (by unfold rg; omega))
    · obtain ⟨ms, hc, -⟩ := G.q p
      have n2 : ¬ sc X (X + 121 + 2) := by unfold sc; omega
      have rp := rPlc (h := h) (h' := pI h1 769 (X + 121) 0) (t := t) (k := k) ms (fun i => p.a n2)
      have z0 : gI (pI (pI h1 769 (X + 121) 0) 768 (X + 121) (prS h X t k)) 768 (X + 121) = prS h X t k := gI_pIs (by unfold rg; omega)
      show MR (fX12_write h1 (X + 121) t k v) h1 X _ _
      unfold fX12_write
      refine MR.of (gdg ms.k (ltg (bdg rp (ltg ?_)))) (mr_st (by unfold rg; omega))
      rw [z0]
      exact iteT (by omega) rfl
set_option maxHeartbeats 200000 in
theorem ok_read {h : Hp} {X : Nat} {t k : Int} (I : Inv h X) (rk : rg k) : OK3 (fun h => fX11_read h X t k) (fun h => fX12_read h (X + 121) t k) h X := by
  obtain ⟨c, J, i1, i2, i3⟩ := id I
  have H := J.x
  have G := J.m
  have xp := xPlr (t := t) J rk
  have pr := prS_rg h X t k
  by_cases q : prS h X t k = 0
  · have qq := q
    unfold prS at qq
    have t4 : 0 ≤ t ∧ t < 4 := by
      apply Classical.byContradiction
      intro z
      rw [if_neg z] at qq
      omega
    rw [if_pos t4] at qq
    have q2 : ¬ gA h (X + 121 + 2) t.toNat < 0 := by
      intro z
      rw [if_pos z] at qq
      omega
    rw [if_neg q2] at qq
    have q3 : 0 ≤ k ∧ k < gA h (X + 121 + 2) t.toNat := by
      apply Classical.byContradiction
      intro z
      rw [if_neg z] at qq
      omega
    clear qq
    obtain ⟨a1, a2, a3, a4, a5, a6, a7⟩ := H.1.tray t4.1 t4.2
    have ti := tr_is (J.tr t.toNat (by omega)) q2
    have e60 : WE (60 * t) := we (by omega) (by omega)
    have e61 : WE (60 * t + k) := we (by omega) (by omega)
    have z642 : gI (pI h 721 X 0) 642 (X + 2 + 2 * t.toNat) = gI h 642 (X + 2 + 2 * t.toNat) := gI_n (by omega)
    refine ok3 I J ⟨0, gB h (X + 3 + 2 * t.toNat) k.toNat, ?_, fun h1 p => ?_⟩
    · show XR (fX11_read h X t k) h X _ _
      unfold fX11_read
      rw [q] at xp
      have xg := xGet (h := pI h 721 X 0) (X := X) (t := t.toNat) (p := k) a5 a7 a6 q3.1 (by rw [z642]; omega) (by omega)
      refine ⟨pI h 721 X 0, gdg H.k (bdg xp (iteT rfl ?_)), q_pI h (Or.inl ⟨rfl, rfl⟩), gI_pIs (rg_lit rfl)⟩
      rw [lt_d]
      exact nng a1 (gdg a2 (gdg a3 (nng a4 (gdg a5 (bdg xg rfl)))))
    · obtain ⟨ms, hc, -⟩ := G.q p
      have n2 : ¬ sc X (X + 121 + 2) := by unfold sc; omega
      have n3 : ¬ sc X (X + 121 + 3) := by unfold sc; omega
      have rp := rPlc (h := h) (h' := pI h1 769 (X + 121) 0) (t := t) (k := k) ms (fun i => p.a n2)
      rw [q] at rp
      have z0 : gI (pI (pI h1 769 (X + 121) 0) 768 (X + 121) 0) 768 (X + 121) = 0 := gI_pIs (rg_lit rfl)
      show MR (fX12_read h1 (X + 121) t k) h1 X _ _
      unfold fX12_read
      refine MR.of (gdg ms.k (ltg (bdg rp (ltg ?_)))) (mr_st (rg_lit rfl))
      rw [z0, e60.e, e61.e]
      refine iteF (by omega) (nng ms.r774 (gdg ?_ (gdg ?_ ?_)))
      · show (hK h1 (X + 121 + 3)).1 = 22
        rw [ms.k3]
      · show inA _ (hK h1 (X + 121 + 3)).2
        rw [ms.k3]; show 0 ≤ _ ∧ _ < (240 : Int); omega
      · have e9 := ti.2.2.2.2 k.toNat (by omega)
        rw [gB_pI, gB_pI, p.b n3, e9, show (60 * t + k).toNat = 60 * t.toNat + k.toNat by omega]
  · refine ok3 I J ⟨prS h X t k, -1, ?_, fun h1 p => ?_⟩
    · show XR (fX11_read h X t k) h X _ _
      unfold fX11_read
      exact XR.of (gdg H.k (bdg xp (iteF q (bd2_id _)))) (xr_re H.k (QR.rf h) (by unfold rg; omega))
    · obtain ⟨ms, hc, -⟩ := G.q p
      have n2 : ¬ sc X (X + 121 + 2) := by unfold sc; omega
      have rp := rPlc (h := h) (h' := pI h1 769 (X + 121) 0) (t := t) (k := k) ms (fun i => p.a n2)
      have z0 : gI (pI (pI h1 769 (X + 121) 0) 768 (X + 121) (prS h X t k)) 768 (X + 121) = prS h X t k := gI_pIs (by unfold rg; omega)
      show MR (fX12_read h1 (X + 121) t k) h1 X _ _
      unfold fX12_read
      refine MR.of (gdg ms.k (ltg (bdg rp (ltg ?_)))) (mr_st (by unfold rg; omega))
      rw [z0]
      exact iteT (by omega) rfl
