/-! STATE: feed (written by wip/whole/g68.py) -/
set_option maxHeartbeats 200000 in
theorem tby_bd (x : Int) : -128 ≤ tby x ∧ tby x ≤ 127 := by
  unfold tby
  rw [Int8.toInt_toInt32]
  have h1 := Int8.le_toInt (Int32.ofInt x).toInt8
  have h2 := Int8.toInt_lt (Int32.ofInt x).toInt8
  omega
def byF (a : Int) (i : Nat) : Int := tby (shr a (24 - 8 * (i : Int)))
def apB (T : Nat → Int) (u : Nat) (a : Int) : Nat → Int := fun k => if u ≤ k ∧ k < u + 4 then byF a (k - u) else T k
set_option maxHeartbeats 200000 in
theorem apB_cg {T R : Nat → Int} {u : Nat} {a : Int} (e : ∀ k, k < u → T k = R k ∧ -128 ≤ T k ∧ T k ≤ 127) : ∀ k, k < u + 4 → apB T u a k = apB R u a k ∧ -128 ≤ apB T u a k ∧ apB T u a k ≤ 127 := by
  intro k hk
  unfold apB
  by_cases y : u ≤ k ∧ k < u + 4
  · rw [if_pos y, if_pos y]
    exact ⟨rfl, tby_bd _⟩
  · rw [if_neg y, if_neg y]
    exact e k (by omega)
def S2 (X : Nat) (h t : Hp) : Prop := gI t 721 X = gI h 721 X ∧ gI t 768 (X + 121) = gI h 768 (X + 121)
set_option maxHeartbeats 200000 in
theorem S2.rf {X : Nat} (h : Hp) : S2 X h h := ⟨rfl, rfl⟩
set_option maxHeartbeats 200000 in
theorem S2.tr {X : Nat} {h h1 h2 : Hp} (p : S2 X h h1) (q : S2 X h1 h2) : S2 X h h2 := ⟨q.1.trans p.1, q.2.trans p.2⟩
set_option maxHeartbeats 200000 in
theorem xAddI {h : Hp} {X u : Nat} {a : Int} (H : XS h X) (z : X + 144 ≤ hZ h) (hu : gI h 577 (X + 10) = (u : Int)) (u8 : u + 4 ≤ 900) :
    ∃ t : Hp, (FL [11] [(577, 10)] X h t ∧ gI t 577 (X + 10) = ((u + 4 : Nat) : Int) ∧ (∀ k, gA t (X + 11) k = apB (gA h (X + 11)) u a k) ∧ S2 X h t) ∧ fX9_addInt h (X + 10) a = some t := by
  unfold fX9_addInt
  have key := fk (S := Hp) (T := Hp) (fun fu v t => fX9_addInt_b3 (X + 10) a fu t (24 - 8 * v)) some 4 (fun i t => FL [11] [(577, 10)] X h t ∧ gI t 577 (X + 10) = ((u + i : Nat) : Int) ∧ (∀ k, gA t (X + 11) k = if u ≤ k ∧ k < u + i then byF a (k - u) else gA h (X + 11) k) ∧ S2 X h t) (fun t => FL [11] [(577, 10)] X h t ∧ gI t 577 (X + 10) = ((u + 4 : Nat) : Int) ∧ (∀ k, gA t (X + 11) k = apB (gA h (X + 11)) u a k) ∧ S2 X h t) 0 h (by omega) ⟨FL.rf h, hu, (fun k => by rw [if_neg (by omega)]), S2.rf h⟩ (by omega)
    (fun fu i t hi hI => by
      obtain ⟨p1, p2, p3, p4⟩ := hI
      have Ht := H.fl p1 z (by decide +kernel)
      have e5 : WE (24 - 8 * (i : Int) + (-8)) := we (by omega) (by omega)
      have e6 : WE (((u + i : Nat) : Int) + 1) := we (by omega) (by omega)
      have z7 : gI (sA t (X + 11) ((u + i : Nat) : Int) (tby (shr a (24 - 8 * (i : Int))))) 577 (X + 10) = ((u + i : Nat) : Int) := p2
      left
      refine ⟨pI (sA t (X + 11) ((u + i : Nat) : Int) (tby (shr a (24 - 8 * (i : Int))))) 577 (X + 10) (((u + i : Nat) : Int) + 1), ⟨(p1.tr (fl_sA t 11 rfl (by decide))).tr (fl_pI _ 10 rfl (by decide)), ?_, fun k => ?_, p4.tr ⟨by rw [gI_n (by omega), gI_sA], by rw [gI_n (by omega), gI_sA]⟩⟩, ?_⟩
      · rw [gI_pIs (by unfold rg; omega)]; omega
      · rw [gA_pI, gA_sA]
        have tb := tby_bd (shr a (24 - 8 * (i : Int)))
        by_cases y : k = u + i
        · rw [if_pos ⟨rfl, by omega⟩, if_pos (by omega), y, show u + i - u = i by omega, w32_id (by omega) (by omega)]
          rfl
        · rw [if_neg (fun w => y (by have := w.2; omega)), p3 k]
          by_cases y2 : u ≤ k ∧ k < u + i
          · rw [if_pos y2, if_pos (by omega)]
          · rw [if_neg y2, if_neg (by omega)]
      · show fX9_addInt_b3 (X + 10) a (fu + 1) t (24 - 8 * (i : Int)) = fX9_addInt_b3 (X + 10) a fu (pI (sA t (X + 11) ((u + i : Nat) : Int) (tby (shr a (24 - 8 * (i : Int))))) 577 (X + 10) (((u + i : Nat) : Int) + 1)) (24 - 8 * ((i : Int) + 1))
        rw [fX9_addInt_b3.eq_2, p2, e5.e, show 24 - 8 * ((i : Int) + 1) = 24 - 8 * (i : Int) + (-8) by omega]
        refine iteF (by omega) (gdg (by rw [Ht.k10]) (iteT (by omega) (nng Ht.r576 (gdg (by rw [Ht.k11]) (gdg (by rw [Ht.k11]; show 0 ≤ _ ∧ _ < (900 : Int); omega) ?_)))))
        rw [lt_d, z7, e6.e, lt_d, lt_d])
    (fun fu t hI => by
      obtain ⟨p1, p2, p3, p4⟩ := hI
      refine ⟨t, ⟨p1, p2, p3, p4⟩, ?_⟩
      show fX9_addInt_b3 (X + 10) a (fu + 1) t (24 - 8 * ((4 : Nat) : Int)) = _
      rw [fX9_addInt_b3.eq_2]
      exact iteT (by omega) rfl)
  exact key
set_option maxHeartbeats 200000 in
theorem rLayI {h : Hp} {X u : Nat} {a : Int} (H : MS h (X + 121)) (z : X + 144 ≤ hZ h) (hu : gI h 776 (X + 121) = (u : Int)) (u8 : u + 4 ≤ 900) :
    ∃ t : Hp, (FL [125] [(776, 121)] X h t ∧ gI t 776 (X + 121) = ((u + 4 : Nat) : Int) ∧ (∀ k, gA t (X + 121 + 4) k = apB (gA h (X + 121 + 4)) u a k) ∧ S2 X h t) ∧ fX12_lay h (X + 121) a = some t := by
  unfold fX12_lay
  have key := fk (S := Hp) (T := Hp) (fun fu v t => fX12_lay_b2 (X + 121) a fu t (3 - v)) some 4 (fun i t => FL [125] [(776, 121)] X h t ∧ gI t 776 (X + 121) = ((u + i : Nat) : Int) ∧ (∀ k, gA t (X + 121 + 4) k = if u ≤ k ∧ k < u + i then byF a (k - u) else gA h (X + 121 + 4) k) ∧ S2 X h t) (fun t => FL [125] [(776, 121)] X h t ∧ gI t 776 (X + 121) = ((u + 4 : Nat) : Int) ∧ (∀ k, gA t (X + 121 + 4) k = apB (gA h (X + 121 + 4)) u a k) ∧ S2 X h t) 0 h (by omega) ⟨FL.rf h, hu, (fun k => by rw [if_neg (by omega)]), S2.rf h⟩ (by omega)
    (fun fu i t hi hI => by
      obtain ⟨p1, p2, p3, p4⟩ := hI
      have Ht := H.fl p1 z (by decide +kernel)
      have e4 : WE (8 * (3 - (i : Int))) := we (by omega) (by omega)
      have e5 : WE (3 - (i : Int) + (-1)) := we (by omega) (by omega)
      have e6 : WE (((u + i : Nat) : Int) + 1) := we (by omega) (by omega)
      have z7 : gI (sA t (X + 121 + 4) ((u + i : Nat) : Int) (tby (shr a (24 - 8 * (i : Int))))) 776 (X + 121) = ((u + i : Nat) : Int) := p2
      left
      refine ⟨pI (sA t (X + 121 + 4) ((u + i : Nat) : Int) (tby (shr a (24 - 8 * (i : Int))))) 776 (X + 121) (((u + i : Nat) : Int) + 1), ⟨(p1.tr (fl_sA t 125 rfl (by decide))).tr (fl_pI _ 121 rfl (by decide)), ?_, fun k => ?_, p4.tr ⟨by rw [gI_n (by omega), gI_sA], by rw [gI_n (by omega), gI_sA]⟩⟩, ?_⟩
      · rw [gI_pIs (by unfold rg; omega)]; omega
      · rw [gA_pI, gA_sA]
        have tb := tby_bd (shr a (24 - 8 * (i : Int)))
        by_cases y : k = u + i
        · rw [if_pos ⟨rfl, by omega⟩, if_pos (by omega), y, show u + i - u = i by omega, w32_id (by omega) (by omega)]
          rfl
        · rw [if_neg (fun w => y (by have := w.2; omega)), p3 k]
          by_cases y2 : u ≤ k ∧ k < u + i
          · rw [if_pos y2, if_pos (by omega)]
          · rw [if_neg y2, if_neg (by omega)]
      · show fX12_lay_b2 (X + 121) a (fu + 1) t (3 - (i : Int)) = fX12_lay_b2 (X + 121) a fu (pI (sA t (X + 121 + 4) ((u + i : Nat) : Int) (tby (shr a (24 - 8 * (i : Int))))) 776 (X + 121) (((u + i : Nat) : Int) + 1)) (3 - ((i : Int) + 1))
        rw [fX12_lay_b2.eq_2, p2, e4.e, e5.e, show 3 - ((i : Int) + 1) = 3 - (i : Int) + (-1) by omega, show 8 * (3 - (i : Int)) = 24 - 8 * (i : Int) by omega]
        refine iteF (by omega) (gdg Ht.k (nng Ht.r775 (gdg (by rw [Ht.k4]) (gdg (by rw [Ht.k4]; show 0 ≤ _ ∧ _ < (900 : Int); omega) ?_))))
        rw [lt_d, z7, e6.e, lt_d, lt_d])
    (fun fu t hI => by
      obtain ⟨p1, p2, p3, p4⟩ := hI
      refine ⟨t, ⟨p1, p2, p3, p4⟩, ?_⟩
      show fX12_lay_b2 (X + 121) a (fu + 1) t (3 - ((4 : Nat) : Int)) = _
      rw [fX12_lay_b2.eq_2]
      exact iteT (by omega) rfl)
  exact key
def ap5 (T : Nat → Int) (u : Nat) (a b d e f : Int) : Nat → Int := apB (apB (apB (apB (apB T u a) (u + 4) b) (u + 4 + 4) d) (u + 4 + 4 + 4) e) (u + 4 + 4 + 4 + 4) f
set_option maxHeartbeats 200000 in
theorem ap5_cg {T R : Nat → Int} {u : Nat} {a b d e f : Int} (h : ∀ k, k < u → T k = R k ∧ -128 ≤ T k ∧ T k ≤ 127) : ∀ k, k < u + 20 → ap5 T u a b d e f k = ap5 R u a b d e f k ∧ -128 ≤ ap5 T u a b d e f k ∧ ap5 T u a b d e f k ≤ 127 :=
  fun k hk => apB_cg (apB_cg (apB_cg (apB_cg (apB_cg h)))) k (by omega)
set_option maxHeartbeats 1000000 in
theorem xFeed {h : Hp} {X u : Nat} {a b d e f : Int} (H : XS h X) (z : X + 144 ≤ hZ h) (hu : gI h 577 (X + 10) = (u : Int)) (q : u + 20 ≤ 900) :
    ∃ s : Hp, (FL [11] [(577, 10)] X h s ∧ gI s 577 (X + 10) = ((u + 20 : Nat) : Int) ∧ gA s (X + 11) = ap5 (gA h (X + 11)) u a b d e f ∧ S2 X h s) ∧ fX11_feed h X a b d e f = some (((u + 20 : Nat) : Int), s) := by
  have ew : WE ((u : Int) + 20) := we (by omega) (by omega)
  have k10 : (hK h (X + 10)).1 = 9 := by rw [H.k10]
  obtain ⟨s1, ⟨p1, u1, v1, n1⟩, f1⟩ := xAddI (a := a) H z hu (by omega)
  have z1 : X + 144 ≤ hZ s1 := Nat.le_trans z p1.1
  have H1 := H.fl p1 z (by decide +kernel)
  obtain ⟨s2, ⟨p2, u2, v2, n2⟩, f2⟩ := xAddI (a := b) H1 z1 u1 (by omega)
  have z2 : X + 144 ≤ hZ s2 := Nat.le_trans z1 p2.1
  have H2 := H1.fl p2 z1 (by decide +kernel)
  obtain ⟨s3, ⟨p3, u3, v3, n3⟩, f3⟩ := xAddI (a := d) H2 z2 u2 (by omega)
  have z3 : X + 144 ≤ hZ s3 := Nat.le_trans z2 p3.1
  have H3 := H2.fl p3 z2 (by decide +kernel)
  obtain ⟨s4, ⟨p4, u4, v4, n4⟩, f4⟩ := xAddI (a := e) H3 z3 u3 (by omega)
  have z4 : X + 144 ≤ hZ s4 := Nat.le_trans z3 p4.1
  have H4 := H3.fl p4 z3 (by decide +kernel)
  obtain ⟨s5, ⟨p5, u5, v5, n5⟩, f5⟩ := xAddI (a := f) H4 z4 u4 (by omega)
  have H5 := H4.fl p5 z4 (by decide +kernel)
  refine ⟨s5, ⟨(((p1.tr p2).tr p3).tr p4).tr p5, u5, ?_, (((n1.tr n2).tr n3).tr n4).tr n5⟩, ?_⟩
  · unfold ap5
    rw [← funext v1, ← funext v2, ← funext v3, ← funext v4, ← funext v5]
  · unfold fX11_feed
    refine gdg (by rw [H.k0]) (nng H.r705 (gdg k10 (bdg (q := 1) (by unfold fX9_hasRoomFor; refine gdg k10 ?_; rw [hu, ew.e, if_pos (by omega)]) (iteF (by omega) (bdg f1 (gdg (by rw [H1.k0]) (nng H1.r705 (gdg (by rw [H1.k10]) (bdg f2 (gdg (by rw [H2.k0]) (nng H2.r705 (gdg (by rw [H2.k10]) (bdg f3 (gdg (by rw [H3.k0]) (nng H3.r705 (gdg (by rw [H3.k10]) (bdg f4 (gdg (by rw [H4.k0]) (nng H4.r705 (gdg (by rw [H4.k10]) (bdg f5 (gdg (by rw [H5.k0]) (nng H5.r705 (gdg (by rw [H5.k10]) ?_))))))))))))))))))))))))
    rw [u5]
set_option maxHeartbeats 1000000 in
theorem rFeed {h : Hp} {X u : Nat} {a b d e f : Int} (H : MS h (X + 121)) (z : X + 144 ≤ hZ h) (hu : gI h 776 (X + 121) = (u : Int)) (q : u + 20 ≤ 900) :
    ∃ s : Hp, (FL [125] [(776, 121)] X h s ∧ S2 X h s ∧ gI s 776 (X + 121) = ((u + 20 : Nat) : Int) ∧ gA s (X + 121 + 4) = ap5 (gA h (X + 121 + 4)) u a b d e f) ∧ fX12_feed h (X + 121) a b d e f = some (((u + 20 : Nat) : Int), s) := by
  have ew : WE ((u : Int) + 20) := we (by omega) (by omega)
  have qt : FL [125] [(776, 121)] X h (pI h 769 (X + 121) 0) := fl_m (q_pI h ⟨rfl, by omega⟩)
  have m0' : MS (pI h 769 (X + 121) 0) (X + 121) := H
  have y0 : gI (pI h 769 (X + 121) 0) 776 (X + 121) = (u : Int) := by rw [gI_n (by omega)]; exact hu
  have z0 : X + 144 ≤ hZ (pI h 769 (X + 121) 0) := z
  obtain ⟨t1, ⟨g1, y1, w1, x1⟩, e21⟩ := rLayI (a := a) m0' z0 y0 (by omega)
  have z6 : X + 144 ≤ hZ t1 := Nat.le_trans z0 g1.1
  have M1 := m0'.fl g1 z0 (by decide +kernel)
  obtain ⟨t2, ⟨g2, y2, w2, x2⟩, e22⟩ := rLayI (a := b) M1 z6 y1 (by omega)
  have z7 : X + 144 ≤ hZ t2 := Nat.le_trans z6 g2.1
  have M2 := M1.fl g2 z6 (by decide +kernel)
  obtain ⟨t3, ⟨g3, y3, w3, x3⟩, e23⟩ := rLayI (a := d) M2 z7 y2 (by omega)
  have z8 : X + 144 ≤ hZ t3 := Nat.le_trans z7 g3.1
  have M3 := M2.fl g3 z7 (by decide +kernel)
  obtain ⟨t4, ⟨g4, y4, w4, x4⟩, e24⟩ := rLayI (a := e) M3 z8 y3 (by omega)
  have z9 : X + 144 ≤ hZ t4 := Nat.le_trans z8 g4.1
  have M4 := M3.fl g4 z8 (by decide +kernel)
  obtain ⟨t5, ⟨g5, y5, w5, x5⟩, e25⟩ := rLayI (a := f) M4 z9 y4 (by omega)
  have M5 := M4.fl g5 z9 (by decide +kernel)
  refine ⟨t5, ⟨((((qt.tr g1).tr g2).tr g3).tr g4).tr g5, (S2.tr (h1 := pI h 769 (X + 121) 0) ⟨gI_n (by omega), gI_n (by omega)⟩ x1).tr (((x2.tr x3).tr x4).tr x5), y5, ?_⟩, ?_⟩
  · unfold ap5
    have e0 : gA h (X + 121 + 4) = gA (pI h 769 (X + 121) 0) (X + 121 + 4) := rfl
    rw [e0, ← funext w1, ← funext w2, ← funext w3, ← funext w4, ← funext w5]
  · unfold fX12_feed
    refine gdg H.k ?_
    rw [lt_d, y0, ew.e]
    refine iteT (by omega) (bdg e21 (gdg M1.k (bdg e22 (gdg M2.k (bdg e23 (gdg M3.k (bdg e24 (gdg M4.k (bdg e25 (gdg M5.k ?_))))))))))
    rw [y5]
set_option maxHeartbeats 1000000 in
theorem ok_feed {h : Hp} {X : Nat} {a b d e f : Int} (I : Inv h X) : OK3 (fun h => fX11_feed h X a b d e f) (fun h => fX12_feed h (X + 121) a b d e f) h X := by
  obtain ⟨c, J, i1, i2, i3⟩ := id I
  have H := J.x
  have G := J.m
  obtain ⟨tp1, tp2, tp3, tp4, tp5⟩ := J.tp
  obtain ⟨u, eu⟩ := i2n tp1.1
  rw [eu] at tp1 tp2 tp3
  have ew : WE ((u : Int) + 20) := we (by omega) (by omega)
  have k10 : (hK h (X + 10)).1 = 9 := by rw [H.1.k10]
  by_cases q : u + 20 ≤ 900
  · obtain ⟨s5, ⟨pc, u5, v5, n5⟩, e1⟩ := xFeed (a := a) (b := b) (d := d) (e := e) (f := f) H.1 J.z tp2 q
    have z5 : X + 144 ≤ hZ s5 := Nat.le_trans J.z pc.1
    have ms := G.1.fl pc J.z (by decide +kernel)
    obtain ⟨t5, ⟨gc, x5, y5, w5⟩, e2⟩ := rFeed (a := a) (b := b) (d := d) (e := e) (f := f) ms z5 ((pc.fi J.z (f := 776) (i := 121) (by decide +kernel)).1.trans eu) q
    have p : FL [11, 125] [(577, 10), (776, 121)] X h t5 := (pc.mono (by decide) (by decide)).tr (gc.mono (by decide) (by decide))
    have r0 : gA s5 (X + 121 + 4) = gA h (X + 121 + 4) := funext (pc.ro J.z (i := 125) (by decide +kernel)).1
    have r11 := (gc.ro z5 (i := 11) (by decide +kernel)).1
    have x577 : gI t5 577 (X + 10) = ((u + 20 : Nat) : Int) := (gc.fi z5 (f := 577) (i := 10) (by decide +kernel)).1.trans u5
    have tp' : TP t5 X := by
      unfold TP
      rw [y5, x577]
      refine ⟨by omega, rfl, fun k hk => ?_, ?_, ?_⟩
      · rw [r11, v5, w5, r0]
        exact ap5_cg (fun k hk => tp3 k (by omega)) k (by omega)
      · rw [(p.fi J.z (f := 578) (i := 10) (by decide +kernel)).1, (p.fi J.z (f := 778) (i := 121) (by decide +kernel)).1]; exact tp4
      · rw [(p.fi J.z (f := 579) (i := 10) (by decide +kernel)).1, (p.fi J.z (f := 779) (i := 121) (by decide +kernel)).1]; exact tp5
    refine ⟨_, s5, t5, e1, e2, c, ⟨J.x.fl J.b p (by decide +kernel) (by decide +kernel), J.m.fl p J.z (by decide +kernel), J.b.fl p (by decide +kernel) (by decide +kernel), J.tr.fl p J.z (by decide +kernel), tp', J.mk.fl p J.z (by decide +kernel) (fun _ _ => rfl), J.rd.fl p J.z (by decide +kernel), J.mg.fl p J.z (by decide +kernel), J.cn.fl p J.z (by decide +kernel), J.sf.fl p J.z (by decide +kernel)⟩, ?_, ?_, ?_⟩
    · have n9 := n5.tr x5
      rw [n9.1, n9.2]; exact i1
    · rw [(p.f0 J.z (f := 722) (by decide +kernel)).2.1, (p.fi J.z (f := 770) (i := 121) (by decide +kernel)).2.1]; exact i2
    · rw [(p.f0 J.z (f := 723) (by decide +kernel)).2.1, (p.fi J.z (f := 771) (i := 121) (by decide +kernel)).2.1]; exact i3
  · refine ⟨-1, h, pI h 769 (X + 121) 0, ?_, ?_, inv_m I (q_pI h ⟨rfl, by omega⟩) (gI_n (by omega))⟩
    · show fX11_feed h X a b d e f = _
      unfold fX11_feed
      refine gdg H.k (nng H.1.r705 (gdg k10 (bdg (q := 0) (by unfold fX9_hasRoomFor; refine gdg k10 ?_; rw [tp2, ew.e, if_neg (by omega)]) (iteT rfl rfl))))
    · show fX12_feed h (X + 121) a b d e f = _
      unfold fX12_feed
      refine gdg G.1.k ?_
      have y0 : gI (pI h 769 (X + 121) 0) 776 (X + 121) = (u : Int) := by rw [gI_n (by omega)]; exact eu
      rw [lt_d, y0, ew.e]
      exact iteF (by omega) rfl
