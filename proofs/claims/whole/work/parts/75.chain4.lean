/-! CHAINS: the call -/
set_option maxHeartbeats 200000 in
theorem xLnk {h : Hp} {X : Nat} {c : Nat → Int} {n : Int} (H : CX h X c) :
    ∃ t : Hp, (QX X h t ∧ CX t X c ∧ ∀ l, l < (c 2).toNat → gA t (X + 114) l = ((lkS c n l : Nat) : Int)) ∧ ∃ S, SV t S c ∧ gR t 717 X = some S ∧ (hK t S).1 = 7 ∧ gI t 451 S = c 2 ∧ fX11_chain_b37 X n FU h 0 = (nn (gR t 716 X) fun q5 => gd ((hK t q5).1 = 5) <| bd (fX5_findChain t q5 (gI t 451 S)) fun h9 => gd ((hK h9 X).1 = 11) <| nn (gR h9 716 X) fun q11 => gd ((hK h9 q11).1 = 5) <| nn (gR h9 323 q11) fun q13 => gd ((hK h9 q13).1 = 6) <| bd2 (fX11_answer h9 X (gI h9 386 q13)) fun r15 h17 => some (r15, h17)) := by
  have w := H.wf
  have nj := w.nj
  have key := fk (S := Hp) (T := Hp × Nat) (fun fu i t => fX11_chain_b37 X n fu t i) (fun t => nn (gR t.1 716 X) fun q5 => gd ((hK t.1 q5).1 = 5) <| bd (fX5_findChain t.1 q5 (gI t.1 451 t.2)) fun h9 => gd ((hK h9 X).1 = 11) <| nn (gR h9 716 X) fun q11 => gd ((hK h9 q11).1 = 5) <| nn (gR h9 323 q11) fun q13 => gd ((hK h9 q13).1 = 6) <| bd2 (fX11_answer h9 X (gI h9 386 q13)) fun r15 h17 => some (r15, h17)) (c 2).toNat
    (fun i t => QX X h t ∧ CX t X c ∧ ∀ l, l < i → gA t (X + 114) l = ((lkS c n l : Nat) : Int)) (fun t => (QX X h t.1 ∧ CX t.1 X c ∧ ∀ l, l < (c 2).toNat → gA t.1 (X + 114) l = ((lkS c n l : Nat) : Int)) ∧ SV t.1 t.2 c ∧ gR t.1 717 X = some t.2 ∧ (hK t.1 t.2).1 = 7 ∧ gI t.1 451 t.2 = c 2) 0 h (by omega) ⟨QR.rf h, H, fun l hl => absurd hl (by omega)⟩ (by omega)
    (fun fu i t hi hI => by
      obtain ⟨p1, p2, p3⟩ := hI
      obtain ⟨S, f1, f2, f3, f4, f5, f6⟩ := p2.shop
      have e5 : WE ((i : Int) + 1) := we (by omega) (by omega)
      have q : okJ c (i : Int) := ⟨by omega, by omega⟩
      obtain ⟨⟨t1, v⟩, ⟨y1, y2, y3, y5⟩, y4⟩ := xFol (n := n) p2 q
      have y1 : QX X t t1 := y1
      have y2 : CX t1 X c := y2
      have y3 : v = ((lkS c n i : Nat) : Int) := y3
      have y4 : fX11_followers t X (i : Int) n = some (v, t1) := y4
      have l8 := (lkS_ok w n i).1
      have H1 := y2.1
      have qs : QX X t1 (sA t1 (X + 114) (i : Int) v) := q_sA t1 (by unfold sc; omega)
      have q0 : QX X t t1 := y1
      left
      refine ⟨sA t1 (X + 114) (i : Int) v, ⟨(p1.tr q0).tr qs, y2.q qs po_X, fun l hl => ?_⟩, ?_⟩
      · rw [gA_sA]
        by_cases y : l = i
        · rw [if_pos ⟨rfl, by omega⟩, y3, w32_id (by omega) (by omega), y]
        · rw [if_neg (fun zz => y (by have := zz.2; omega))]
          have a1 : gA t1 (X + 114) l = gA t (X + 114) l := y5 l
          rw [a1]
          exact p3 l (by omega)
      · show fX11_chain_b37 X n (fu + 1) t (i : Int) = fX11_chain_b37 X n fu (sA t1 (X + 114) (i : Int) v) ((i : Int) + 1)
        rw [fX11_chain_b37.eq_2]
        refine gdg p2.k (nng f1 (gdg f2 (iteT (by omega) (nng p2.1.r716 (bd2g y4 (gdg (by rw [H1.k113]) (bdg (q := sA t1 (X + 114) (i : Int) v) ?_ ?_)))))))
        · unfold fX5_link
          refine iteF (by omega) (iteT (by omega) (gdg (by rw [H1.k113]) (nng H1.r320 (gdg (by rw [H1.k114]) (gdg (by rw [H1.k114]; show 0 ≤ _ ∧ _ < (8 : Int); omega) ?_)))))
          rw [lt_d]
        · rw [lt_d, e5.e])
    (fun fu t hI => by
      obtain ⟨p1, p2, p3⟩ := hI
      obtain ⟨S, f1, f2, f3, f4, f5, f6⟩ := p2.shop
      refine ⟨(t, S), ⟨⟨p1, p2, p3⟩, f3, f1, f2, f4⟩, ?_⟩
      show fX11_chain_b37 X n (fu + 1) t ((c 2).toNat : Int) = _
      rw [fX11_chain_b37.eq_2]
      exact gdg p2.k (nng f1 (gdg f2 (iteF (by omega) rfl))))
  obtain ⟨⟨t, S⟩, ⟨h1, h2, h3, h4, h5⟩, h6⟩ := key
  exact ⟨t, h1, S, h2, h3, h4, h5, h6⟩
set_option maxHeartbeats 200000 in
/-- the class's chain, found -/
theorem xFCh {h : Hp} {X N m : Nat} {lk : Nat → Nat} (H : XS h X) (z : X + 144 ≤ hZ h) (N8 : N ≤ 8) (hl : ∀ j, lk j < 256 ∧ Sub (lk j) (2 ^ N - 1)) (gl : ∀ l, l < N → gA h (X + 114) l = (lk l : Int)) (hm : (m : Int) = chM lk 0 (2 ^ N - 1)) :
    ∃ t : Hp, (FL [118] [(386, 117)] X h t ∧ gI t 386 (X + 117) = (m : Int) ∧ ∀ k, k < m → gA t (X + 118) k = (chB lk (chU lk (2 ^ N - 1) k).1 (chU lk (2 ^ N - 1) k).2 : Int)) ∧ fX5_findChain h (X + 113) (N : Int) = some t := by
  have p256 : 2 ^ N ≤ 256 := show 2 ^ N ≤ 2 ^ 8 from Nat.pow_le_pow_right (by omega) N8
  have p0 : 0 < 2 ^ N := Nat.pow_pos (by omega)
  obtain ⟨t1, ⟨a1, a2⟩, a3⟩ := xFC2 H N8 hl gl
  have q1 : QX X h t1 := q_on a1 (fun b hb => by rw [hb]; unfold sc; omega)
  have H1 : XS t1 X := H.q q1 po_X
  have z1 : X + 144 ≤ hZ t1 := by rw [q1.z]; exact z
  have pc : FL [] [(386, 117)] X t1 (pI t1 386 (X + 117) 0) := fl_pI t1 117 rfl (by decide)
  have H2 := H1.fl pc z1 (by decide +kernel)
  obtain ⟨t2, ⟨b1, b2, b3⟩, b4⟩ := xFC3 H2 z1 N8 hl (fun l hl' => by rw [gA_pI, a1.a (by omega)]; exact gl l hl') (gI_pIs (rg_lit rfl)) (fun y l h1 h2 h3 h4 => by rw [gA_pI]; exact a2 y l h1 h2 h3 h4) hm
  refine ⟨t2, ⟨((fl_q q1).tr (pc.mono (by decide) (by decide))).tr b1, b2, b3⟩, ?_⟩
  have e1 : shl 1 (N : Int) = ((2 ^ N : Nat) : Int) := by rw [shl_n (by omega) (by omega)]; rfl
  have e2 : w32 (((2 ^ N : Nat) : Int) - 1) = ((2 ^ N - 1 : Nat) : Int) := by
    rw [w32_id (by omega) (by omega)]; omega
  unfold fX5_findChain
  rw [lt_d, lt_d, show min (N : Int) 8 = (N : Int) from Int.min_eq_left (by omega), e1, e2, a3, e1, e2]
  refine gdg (by rw [H1.k113]) (nng H1.r323 (gdg (by rw [H1.k117]) (bdg (q := pI t1 386 (X + 117) 0) ?_ (gdg (by rw [H2.k113]) b4))))
  unfold fX6_clear
  exact gdg (by rw [H1.k117]) (ltg rfl)
set_option maxHeartbeats 200000 in
/-- the reference's row is kept -/
theorem rChC {h : Hp} {X m : Nat} (H : MS h (X + 121)) (z : X + 144 ≤ hZ h) (m8 : m ≤ 8) (e : gI h 799 (X + 121) = (m : Int)) (n : Int) :
    ∃ t : Hp, (FL [134] [] X h t ∧ (∀ f a, gI t f a = gI h f a) ∧ ∀ k, k < m → gA t (X + 121 + 13) k = gA h (X + 121 + 12) k) ∧ fX12_chain_b66 (X + 121) n FU h 0 = some ((m : Int), t) := by
  exact fk (S := Hp) (T := Hp) (fun fu i t => fX12_chain_b66 (X + 121) n fu t i) (fun t => some ((m : Int), t)) m
    (fun i t => FL [134] [] X h t ∧ (∀ f a, gI t f a = gI h f a) ∧ (∀ k, gA t (X + 121 + 12) k = gA h (X + 121 + 12) k) ∧ ∀ k, k < i → gA t (X + 121 + 13) k = gA h (X + 121 + 12) k) (fun t => FL [134] [] X h t ∧ (∀ f a, gI t f a = gI h f a) ∧ ∀ k, k < m → gA t (X + 121 + 13) k = gA h (X + 121 + 12) k) 0 h (by omega) ⟨FL.rf h, fun _ _ => rfl, fun _ => rfl, fun k hk => absurd hk (by omega)⟩ (by omega)
    (fun fu i t hi hI => by
      obtain ⟨p1, p2, p3, p4⟩ := hI
      have e5 : WE ((i : Int) + 1) := we (by omega) (by omega)
      have mt := H.fl p1 z (by decide +kernel)
      have e7 := p2 799 (X + 121)
      left
      refine ⟨sA t (X + 121 + 13) (i : Int) (gA t (X + 121 + 12) i), ⟨p1.tr (fl_sA t 134 rfl (by decide)), fun f a => by rw [gI_sA]; exact p2 f a, fun k => ?_, fun k hk => ?_⟩, ?_⟩
      · rw [gA_sA, if_neg (by omega)]; exact p3 k
      · rw [gA_sA]
        by_cases y : k = i
        · have rr : rg (gA t (X + 121 + 12) i) := ti_rg _
          rw [if_pos ⟨rfl, by omega⟩, w32_of rr, p3, y]
        · rw [if_neg (fun zz => y (by have := zz.2; omega))]; exact p4 k (by omega)
      · show fX12_chain_b66 (X + 121) n (fu + 1) t (i : Int) = fX12_chain_b66 (X + 121) n fu (sA t (X + 121 + 13) (i : Int) (gA t (X + 121 + 12) i)) ((i : Int) + 1)
        rw [fX12_chain_b66.eq_2, e7, e]
        refine gdg mt.k (iteT (by omega) (nng mt.r798 (nng mt.r797 (gdg (by rw [mt.k12]) (gdg (by rw [mt.k12]; show 0 ≤ _ ∧ _ < (8 : Int); omega) (gdg (by rw [mt.k13]) (gdg (by rw [mt.k13]; show 0 ≤ _ ∧ _ < (8 : Int); omega) ?_)))))))
        rw [lt_d, lt_d, e5.e]
        rfl)
    (fun fu t hI => by
      obtain ⟨p1, p2, p3, p4⟩ := hI
      have mt := H.fl p1 z (by decide +kernel)
      have e7 := p2 799 (X + 121)
      refine ⟨t, ⟨p1, p2, p4⟩, ?_⟩
      show fX12_chain_b66 (X + 121) n (fu + 1) t (m : Int) = _
      rw [fX12_chain_b66.eq_2, e7, e]
      exact gdg mt.k (iteF (by omega) rfl))
set_option maxHeartbeats 1000000 in
theorem ok_chain {h : Hp} {X : Nat} {n : Int} (I : Inv h X) : OK3 (fun h => fX11_chain h X n) (fun h => fX12_chain h (X + 121) n) h X := by
  obtain ⟨c, J, i1, i2, i3⟩ := id I
  have H := J.x
  have G := J.m
  have w := H.wf
  have nj := w.nj
  obtain ⟨S, u1, u2, u3, u4, u5, u6⟩ := H.shop
  by_cases q : 1 ≤ n ∧ n ≤ 11
  · by_cases q2 : c 2 = 0
    · refine ok3 I J ⟨8, -1, ?_, fun h1 p => ?_⟩
      · show XR (fX11_chain h X n) h X _ _
        unfold fX11_chain
        exact XR.of (bdg (xIn1 q.1 q.2) (iteF (by omega) (gdg H.k (nng u1 (gdg u2 (iteT (by omega) (bd2_id _))))))) (xr_re H.k (QR.rf h) (rg_lit rfl))
      · obtain ⟨ms, hc, -⟩ := G.q p
        show MR (fX12_chain h1 (X + 121) n) h1 X _ _
        have l2 : inA 2 (hK h1 (X + 121 + 5)).2 := by rw [ms.k5]; show 0 ≤ (2 : Int) ∧ (2 : Int) < 1850; omega
        unfold fX12_chain
        refine MR.of (gdg ms.k (ltg (ltg (bdg (rIn1 q.1 q.2) (iteF (by omega) (nng (q := X + 121 + 5) ms.r788 (gdg (by show (hK h1 (X + 121 + 5)).1 = 21; rw [ms.k5]) (gdg l2 (iteT ?_ (bd2_id _)))))))))) (mr_m0r ms (rg_lit rfl))
        show gA h1 (X + 121 + 5) ((2 : Int).toNat) = 0
        rw [hc]; exact q2
    · obtain ⟨t0, ⟨t1, t2, t3⟩, S0, s1, s2, s3, s4, s5⟩ := xLnk (n := n) H
      have zt : X + 144 ≤ hZ t0 := by rw [t1.z]; exact J.z
      have mb := chM_bd (lkS c n) 0 (alA c)
      obtain ⟨m, hm⟩ : ∃ m : Nat, (m : Int) = chM (lkS c n) 0 (alA c) := ⟨(chM (lkS c n) 0 (alA c)).toNat, by omega⟩
      obtain ⟨t9, ⟨o1, o2, o3⟩, o4⟩ := xFCh (N := (c 2).toNat) (lk := lkS c n) t2.1 zt (by omega) (fun j => lkS_ok w n j) t3 hm
      have p1a : FL [118] [(386, 117)] X h t9 := (fl_q t1).tr o1
      have H9 := H.1.fl p1a J.z (by decide +kernel)
      have k9 : (hK t9 X).1 = 11 := by rw [H9.k0]
      have e1 : fX11_chain h X n = some ((m : Int), pI t9 721 X 0) := by
        unfold fX11_chain
        refine bdg (xIn1 q.1 q.2) (iteF (by omega) (gdg H.k (nng u1 (gdg u2 (iteF (by omega) ?_)))))
        rw [s5]
        refine nng t2.1.r716 (gdg (by rw [t2.1.k113]) (bdg (q := t9) ?_ (gdg k9 (nng H9.r716 (gdg (by rw [H9.k113]) (nng H9.r323 (gdg (by rw [H9.k117]) ?_)))))))
        · rw [s4, show c 2 = (((c 2).toNat : Nat) : Int) by omega]; exact o4
        · rw [o2]
          unfold fX11_answer
          exact bd2g (gdg k9 rfl) rfl
      have p1 : FL [118] [(386, 117)] X h (pI t9 721 X 0) := p1a.tr (fl_q (q_pI t9 (Or.inl ⟨rfl, rfl⟩)))
      have x1 : gI (pI t9 721 X 0) 721 X = 0 := gI_pIs (rg_lit rfl)
      have x2 : gI (pI t9 721 X 0) 386 (X + 117) = (m : Int) := by rw [gI_n (by omega)]; exact o2
      have x3 : ∀ k, k < m → gA (pI t9 721 X 0) (X + 118) k = (chB (lkS c n) (chU (lkS c n) (alA c) k).1 (chU (lkS c n) (alA c) k).2 : Int) := o3
      have G1 := G.fl p1 J.z (by decide +kernel)
      generalize pI t9 721 X 0 = h1 at e1 p1 x1 x2 x3 G1
      have z1 : X + 144 ≤ hZ h1 := Nat.le_trans J.z p1.1
      have qz : QM X h1 (pI (m0 h1 X) 799 (X + 121) 0) := (m0_q h1 X).tr (q_pI _ ⟨rfl, by omega⟩)
      have G2 := G1.q qz
      obtain ⟨r1, ⟨y1, y2⟩, y3⟩ := rChF (n := n) 12 (pI (m0 h1 X) 799 (X + 121) 0) 0 0 (alA c) (fun _ => 0) G2 (by omega) (by omega) (by omega) (fun j hj => by rw [Nat.zero_testBit] at hj; cases hj) (by decide) (fun k hk => absurd hk (by omega)) (by rw [if_pos rfl]) (fun z => absurd z (by omega))
      have qm : QM X h1 r1 := qz.tr y1.1
      have zr : X + 144 ≤ hZ r1 := by rw [qm.z]; exact z1
      have z799 : gI (pI (m0 h1 X) 799 (X + 121) 0) 799 (X + 121) = 0 := gI_pIs (rg_lit rfl)
      have A8 := alA_lt w
      have em : mz 8 (chV (lkS c n) 0 (alA c)) = (m : Int) := by rw [hm]; exact (chM_eq A8).symm
      have row : gI r1 799 (X + 121) = (m : Int) ∧ ∀ k, k < m → gA r1 (X + 121 + 12) k = (chB (lkS c n) (chU (lkS c n) (alA c) k).1 (chU (lkS c n) (alA c) k).2 : Int) := by
        unfold ChA at y2
        rw [z799, em] at y2
        by_cases m0 : m = 0
        · have := (y2.2 (by omega)).1
          exact ⟨by rw [this]; omega, fun k hk => absurd hk (by omega)⟩
        · obtain ⟨v1, v2, v3⟩ := y2.1 (by omega)
          obtain ⟨j, j1, j2, j3⟩ := v3 (by omega)
          have ej : chB (lkS c n) 0 (alA c) = j := chB_of A8 j1
          refine ⟨by rw [v1]; omega, fun k hk => ?_⟩
          cases k with
          | zero => rw [j2]; show (j : Int) = ((chB (lkS c n) 0 (alA c) : Nat) : Int); rw [ej]
          | succ k =>
            have a := j3 k (by omega)
            rw [← ej] at a
            have b := chK_U (lkS c n) (alA c) 1 k
            rw [show k + 1 = 0 + 1 + k by omega, a, show 0 + 1 + k = 1 + k by omega, ← b]
            rfl
      have pr : FL [] [(800, 121)] X r1 (pI r1 800 (X + 121) (m : Int)) := fl_pI r1 121 rfl (by decide)
      have G3 := (G1.q qm).fl pr zr (by decide +kernel)
      obtain ⟨r2, ⟨w1, w2, w3⟩, w4⟩ := rChC (h := pI r1 800 (X + 121) (m : Int)) (m := m) G3.1 zr (by omega) (by rw [gI_n (by omega)]; exact row.1) n
      have p2 : FL [134] [(800, 121)] X h1 r2 := ((fl_m qm).tr (pr.mono (by decide) (by decide))).tr (w1.mono (by decide) (by decide))
      have p : FL [118, 134] [(386, 117), (800, 121)] X h r2 := (p1.mono (by decide) (by decide)).tr (p2.mono (by decide) (by decide))
      have s8 : gI r2 768 (X + 121) = 0 := by
        rw [w2, gI_n (by omega), y1.2.1, gI_n (by omega)]; exact m0_s h1 X
      have s7 : gI r2 721 X = 0 := by rw [w2, gI_n (by omega), qm.i (by unfold sc; omega) (fun z => by unfold pM at z; omega)]; exact x1
      have w80 : gI r2 800 (X + 121) = (m : Int) := by rw [w2]; exact gI_pIs (by unfold rg; omega)
      have e2 : fX12_chain h1 (X + 121) n = some ((m : Int), r2) := by
        have ms := G1.1
        have l2 : inA 2 (hK h1 (X + 121 + 5)).2 := by rw [ms.k5]; show 0 ≤ (2 : Int) ∧ (2 : Int) < 1850; omega
        unfold fX12_chain
        refine gdg ms.k (ltg (ltg (bdg (rIn1 q.1 q.2) (iteF (by omega) (nng (q := X + 121 + 5) ms.r788 (gdg (by show (hK h1 (X + 121 + 5)).1 = 21; rw [ms.k5]) (gdg l2 (iteF ?_ (ltg (bdg (q := r1) y3 (gdg (G1.q qm).1.k ?_)))))))))))
        · show ¬ gA h1 (X + 121 + 5) ((2 : Int).toNat) = 0
          rw [G1.2.1]; exact q2
        · rw [row.1, lt_d]
          exact w4
      have f386 := (p2.fi z1 (f := 386) (i := 117) (by decide +kernel)).1
      have r118 := (p2.ro z1 (i := 118) (by decide +kernel)).1
      refine ⟨_, h1, r2, e1, e2, c, ⟨J.x.fl J.b p (by decide +kernel) (by decide +kernel), J.m.fl p J.z (by decide +kernel), J.b.fl p (by decide +kernel) (by decide +kernel), J.tr.fl p J.z (by decide +kernel), J.tp.fl p J.z (by decide +kernel), J.mk.fl p J.z (by decide +kernel) (fun _ _ => rfl), J.rd.fl p J.z (by decide +kernel), J.mg.fl p J.z (by decide +kernel), ⟨by rw [w80]; omega, by rw [w80, f386]; exact x2, fun k hk => ?_⟩, J.sf.fl p J.z (by decide +kernel)⟩, s7.trans s8.symm, ?_, ?_⟩
      · rw [w80] at hk
        rw [r118, x3 k (by omega), w3 k (by omega), gA_pI]
        exact (row.2 k (by omega)).symm
      · rw [(p.f0 J.z (f := 722) (by decide +kernel)).2.1, (p.fi J.z (f := 770) (i := 121) (by decide +kernel)).2.1]; exact i2
      · rw [(p.f0 J.z (f := 723) (by decide +kernel)).2.1, (p.fi J.z (f := 771) (i := 121) (by decide +kernel)).2.1]; exact i3
  · refine ok3 I J ⟨5, -1, ?_, fun h1 p => ?_⟩
    · show XR (fX11_chain h X n) h X _ _
      unfold fX11_chain
      exact XR.of (bdg (xIn0 (by omega)) (iteT rfl (gdg H.k (bd2_id _)))) (xr_re H.k (QR.rf h) (rg_lit rfl))
    · obtain ⟨ms, hc, -⟩ := G.q p
      show MR (fX12_chain h1 (X + 121) n) h1 X _ _
      unfold fX12_chain
      exact MR.of (gdg ms.k (ltg (ltg (bdg (rIn0 (by omega)) (iteT rfl (bd2_id _)))))) (mr_m0r ms (rg_lit rfl))
