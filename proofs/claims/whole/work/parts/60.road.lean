/-! STATE: road, odds, safe (written by wip/whole/g60.py) -/
set_option maxHeartbeats 200000 in
theorem JC.fra {h h' : Hp} {X : Nat} {c : Nat → Int} (J : JC h X c) (p : FL [] [(722, 0), (723, 0), (770, 121), (771, 121)] X h h') : JC h' X c :=
  ⟨J.x.fl J.b p (by decide +kernel) (by decide +kernel), J.m.fl p J.z (by decide +kernel), J.b.fl p (by decide +kernel) (by decide +kernel), J.tr.fl p J.z (by decide +kernel), J.tp.fl p J.z (by decide +kernel), J.mk.fl p J.z (by decide +kernel) (fun _ _ => rfl), J.rd.fl p J.z (by decide +kernel), J.mg.fl p J.z (by decide +kernel), J.cn.fl p J.z (by decide +kernel), J.sf.fl p J.z (by decide +kernel)⟩
set_option maxHeartbeats 200000 in
theorem inv_fra {h t h1 t2 : Hp} {X : Nat} {c : Nat → Int} {a b : Int} (J : JC h X c) (q1 : QX X h t) (eh : pI (pJ (pJ t 722 X a) 723 X b) 721 X 0 = h1) (q2 : QM X h1 t2) (s2 : gI t2 768 (X + 121) = 0) : Inv (pJ (pJ t2 770 (X + 121) a) 771 (X + 121) b) X := by
  subst eh
  have n0 : ¬ sc X X := by unfold sc; omega
  have n1 : ¬ sc X (X + 121) := by unfold sc; omega
  have p1 : FL [] [(722, 0), (723, 0), (770, 121), (771, 121)] X h (pI (pJ (pJ t 722 X a) 723 X b) 721 X 0) := (((fl_q q1).tr (fl_pJ t 0 rfl (by decide))).tr (fl_pJ _ 0 rfl (by decide))).tr (fl_q (q_pI _ (Or.inl ⟨rfl, rfl⟩)))
  have p2 : FL [] [(722, 0), (723, 0), (770, 121), (771, 121)] X t2 (pJ (pJ t2 770 (X + 121) a) 771 (X + 121) b) := (fl_pJ t2 121 rfl (by decide)).tr (fl_pJ _ 121 rfl (by decide))
  refine ⟨c, J.fra ((p1.tr (fl_m q2)).tr p2), ?_, ?_, ?_⟩
  · rw [gI_pJ, gI_pJ, q2.i n0 (fun z => by unfold pM at z; omega), s2]
    exact gI_pIs (rg_lit rfl)
  · rw [gJ_n (by omega), gJ_n (by omega), q2.j n0, gJ_pI, gJ_n (by omega), gJ_n (h := pJ t2 770 (X + 121) a) (by omega), gJ_pJ, if_pos ⟨rfl, rfl⟩, gJ_pJ, if_pos ⟨rfl, rfl⟩]
  · rw [gJ_n (by omega), gJ_n (by omega), q2.j n0, gJ_pI, gJ_pJ, if_pos ⟨rfl, rfl⟩, gJ_pJ, if_pos ⟨rfl, rfl⟩]
set_option maxHeartbeats 200000 in
theorem CM.fra {h t : Hp} {X : Nat} {c : Nat → Int} {a b : Int} (G : CM h X c) (z : X + 144 ≤ hZ h) (q1 : QX X h t) : CM (pI (pJ (pJ t 722 X a) 723 X b) 721 X 0) X c := by
  have p1 : FL [] [(722, 0), (723, 0), (770, 121), (771, 121)] X h (pI (pJ (pJ t 722 X a) 723 X b) 721 X 0) := (((fl_q q1).tr (fl_pJ t 0 rfl (by decide))).tr (fl_pJ _ 0 rfl (by decide))).tr (fl_q (q_pI _ (Or.inl ⟨rfl, rfl⟩)))
  exact G.fl p1 z (by decide +kernel)

set_option maxHeartbeats 200000 in
theorem odds1 {h : Hp} {X : Nat} {a b d m : Int} (I : Inv h X) (c : Nat → Int) (J : JC h X c) (q1 : okS c a) (q2 : 1 ≤ b ∧ b ≤ 30) (q3 : (0 ≤ d ∧ d ≤ 9999) ∧ (1 ≤ m ∧ m ≤ 20) ∧ d + m ≤ 10000) : OK3 (fun h => fX11_odds h X a b d m) (fun h => fX12_odds h (X + 121) a b d m) h X := by
  have H := J.x
  have G := J.m
  have w := H.wf
  obtain ⟨n, rfl⟩ := i2n (show 0 ≤ b by omega)
  obtain ⟨m, rfl⟩ := i2n (show 0 ≤ m by omega)
  have ew1 : WE (d + (m : Int)) := we (by omega) (by omega)
  have ew2 : WE (d + (m : Int) - 1) := we (by omega) (by omega)
  have ew3 : WE (10000 - (m : Int)) := we (by omega) (by omega)
  have a8 := ns_lt w q1
  obtain ⟨⟨t1, v⟩, ⟨y1, y2, y3⟩, y4⟩ := xSpk H q1
  have y1 : QX X h t1 := y1
  have y2 : CX t1 X c := y2
  have y3 : v = ((spkS c a : Nat) : Int) := y3
  obtain ⟨S, u1, u2, u3, u4, u5, u6⟩ := y2.shop
  obtain ⟨t, ⟨z1, z2⟩, z3⟩ := xOdL (s := a) (a3 := d) (n := n) (m := m) y2 u1 u6 (by omega) (by omega) (by omega) (by omega)
  have ob := odS_bd c a d n m
  obtain ⟨k, ek⟩ := i2n ob.1
  rw [ek] at z3 ob
  have qt := y1.tr z1
  have e1 := xFra (h := t) (X := X) (p := k) (q := m) z2.k (by omega) (by omega) (by omega)
  have G1 := G.fra (a := ldv (k : Int) ((Nat.gcd m k : Nat) : Int)) (b := ldv (m : Int) ((Nat.gcd m k : Nat) : Int)) J.z qt
  have e2 : fX11_odds h X a (n : Int) d (m : Int) = some (1, pI (pJ (pJ t 722 X (ldv (k : Int) ((Nat.gcd m k : Nat) : Int))) 723 X (ldv (m : Int) ((Nat.gcd m k : Nat) : Int))) 721 X 0) := by
    unfold fX11_odds
    refine gdg H.k (bdg (xSn1 H q1.1 q1.2) (iteF (by omega) (bdg (xIn1 q2.1 q2.2) (iteF (by omega) (bdg (xIn1 q3.1.1 q3.1.2) (iteF (by omega) (bdg (xIn1 q3.2.1.1 q3.2.1.2) (iteF (by omega) ?_))))))))
    rw [ew1.e, ew2.e]
    refine iteT (by omega) (bd2g y4 ?_)
    rw [y3]
    refine z3.trans (bdg e1 (gdg z2.k ?_))
    unfold fX11_allow
    exact bd2g (gdg z2.k rfl) rfl
  generalize eh1 : pI (pJ (pJ t 722 X (ldv (k : Int) ((Nat.gcd m k : Nat) : Int))) 723 X (ldv (m : Int) ((Nat.gcd m k : Nat) : Int))) 721 X 0 = h1 at e2 G1
  obtain ⟨t2, ⟨v1, v2⟩, v3⟩ := rOdL (h := pI (pI h1 769 (X + 121) 0) 768 (X + 121) 0) (s := a) (a3 := d) (n := n) (m := m) (G1.q (m0_q h1 X)) w q1.1 a8 (by omega) (by omega) (by omega) (by omega)
  have qm := (m0_q h1 X).tr v1
  have v2 : gI t2 768 (X + 121) = 0 := v2.trans (m0_s h1 X)
  have mk : (hK t2 (X + 121)).1 = 12 := (G1.q qm).1.k
  have iv := inv_fra J qt eh1 qm v2
  have ef := rFra (h := t2) (M := X + 121) (p := k) (q := m) mk (by omega) (by omega) (by omega)
  generalize pJ (pJ t2 770 (X + 121) (ldv (k : Int) ((Nat.gcd m k : Nat) : Int))) 771 (X + 121) (ldv (m : Int) ((Nat.gcd m k : Nat) : Int)) = h2 at iv ef
  refine ⟨1, h1, h2, e2, ?_, iv⟩
  obtain ⟨ms, hc, -⟩ := G1
  show fX12_odds h1 (X + 121) a (n : Int) d (m : Int) = _
  unfold fX12_odds
  refine gdg ms.k (ltg (ltg (nng (q := X + 121 + 5) ms.r788 (gdg ms.k5 ?_))))
  have hc' : gA (pI (pI h1 769 (X + 121) 0) 768 (X + 121) 0) (X + 121 + 5) = c := hc
  rw [hc']
  refine bdg (rSn1 w q1.1 q1.2) (iteF (by omega) (bdg (rIn1 q2.1 q2.2) (iteF (by omega) (bdg (rIn1 q3.2.1.1 q3.2.1.2) (iteF (by omega) ?_)))))
  rw [ew3.e]
  refine bdg (rIn1 q3.1.1 (by omega)) (iteF (by omega) (v3.trans ?_))
  rw [ek]
  exact bd2g ef rfl

set_option maxHeartbeats 200000 in
theorem ok_odds {h : Hp} {X : Nat} {a b d m : Int} (I : Inv h X) : OK3 (fun h => fX11_odds h X a b d m) (fun h => fX12_odds h (X + 121) a b d m) h X := by
  obtain ⟨c, J, i1, i2, i3⟩ := id I
  have H := J.x
  have G := J.m
  have w := H.wf
  by_cases q1 : okS c a
  · by_cases q2 : 1 ≤ b ∧ b ≤ 30
    · by_cases q3 : (0 ≤ d ∧ d ≤ 9999) ∧ (1 ≤ m ∧ m ≤ 20) ∧ d + m ≤ 10000
      · exact odds1 I c J q1 q2 q3
      · refine ok3 I J ⟨5, 0, ?_, fun h1 p => ?_⟩
        · show XR (fX11_odds h X a b d m) h X _ _
          unfold fX11_odds
          by_cases q4 : 0 ≤ d ∧ d ≤ 9999
          · by_cases q5 : 1 ≤ m ∧ m ≤ 20
            · have ew1 : WE (d + m) := we (by omega) (by omega)
              have ew2 : WE (d + m - 1) := we (by omega) (by omega)
              rw [ew1.e, ew2.e]
              exact XR.of (by (have z_1 := xSn1 H q1.1 q1.2; (repeat' (first | (with_reducible refine ltg ?_) | ((with_reducible refine iteT ?_ ?_); omega) | ((with_reducible refine iteF ?_ ?_); omega) | ((with_reducible refine gdg ?_ ?_); first | with_reducible exact H.k | with_reducible exact z_1 | exact xIn1 q2.1 q2.2 | exact xIn1 q4.1 q4.2 | exact xIn1 q5.1 q5.2 | omega) | ((with_reducible apply nng); first | with_reducible exact H.k | with_reducible exact z_1 | exact xIn1 q2.1 q2.2 | exact xIn1 q4.1 q4.2 | exact xIn1 q5.1 q5.2) | ((with_reducible apply bdg); first | with_reducible exact H.k | with_reducible exact z_1 | exact xIn1 q2.1 q2.2 | exact xIn1 q4.1 q4.2 | exact xIn1 q5.1 q5.2) | ((with_reducible apply bd2g); first | with_reducible exact H.k | with_reducible exact z_1 | exact xIn1 q2.1 q2.2 | exact xIn1 q4.1 q4.2 | exact xIn1 q5.1 q5.2)))); exact bd2_id _) (xr_de H.k (QR.rf h) (rg_lit rfl))
            · exact XR.of (by (have z_1 := xSn1 H q1.1 q1.2; (repeat' (first | (with_reducible refine ltg ?_) | ((with_reducible refine iteT ?_ ?_); omega) | ((with_reducible refine iteF ?_ ?_); omega) | ((with_reducible refine gdg ?_ ?_); first | with_reducible exact H.k | with_reducible exact z_1 | exact xIn1 q2.1 q2.2 | exact xIn1 q4.1 q4.2 | exact xIn0 (by omega) | omega) | ((with_reducible apply nng); first | with_reducible exact H.k | with_reducible exact z_1 | exact xIn1 q2.1 q2.2 | exact xIn1 q4.1 q4.2 | exact xIn0 (by omega)) | ((with_reducible apply bdg); first | with_reducible exact H.k | with_reducible exact z_1 | exact xIn1 q2.1 q2.2 | exact xIn1 q4.1 q4.2 | exact xIn0 (by omega)) | ((with_reducible apply bd2g); first | with_reducible exact H.k | with_reducible exact z_1 | exact xIn1 q2.1 q2.2 | exact xIn1 q4.1 q4.2 | exact xIn0 (by omega))))); exact bd2_id _) (xr_de H.k (QR.rf h) (rg_lit rfl))
          · exact XR.of (by (have z_1 := xSn1 H q1.1 q1.2; (repeat' (first | (with_reducible refine ltg ?_) | ((with_reducible refine iteT ?_ ?_); omega) | ((with_reducible refine iteF ?_ ?_); omega) | ((with_reducible refine gdg ?_ ?_); first | with_reducible exact H.k | with_reducible exact z_1 | exact xIn1 q2.1 q2.2 | exact xIn0 (by omega) | omega) | ((with_reducible apply nng); first | with_reducible exact H.k | with_reducible exact z_1 | exact xIn1 q2.1 q2.2 | exact xIn0 (by omega)) | ((with_reducible apply bdg); first | with_reducible exact H.k | with_reducible exact z_1 | exact xIn1 q2.1 q2.2 | exact xIn0 (by omega)) | ((with_reducible apply bd2g); first | with_reducible exact H.k | with_reducible exact z_1 | exact xIn1 q2.1 q2.2 | exact xIn0 (by omega))))); exact bd2_id _) (xr_de H.k (QR.rf h) (rg_lit rfl))
        · obtain ⟨ms, hc, -⟩ := G.q p
          simp only [fX12_odds, lt_d, hK_pI, gR_pI, gA_pI, gB_pI, gC_pI, gJ_pI, ms.r788, nn_s, ms.k0, ms.k5, gd_T, eq_self, hc, bd2_id, Int.reduceToNat]
          by_cases q5 : 1 ≤ m ∧ m ≤ 20
          · have ew3 : WE (10000 - m) := we (by omega) (by omega)
            rw [ew3.e]
            exact MR.of (by (have z_0 := rSn1 w q1.1 q1.2; (repeat' (first | (with_reducible refine ltg ?_) | ((with_reducible refine iteT ?_ ?_); omega) | ((with_reducible refine iteF ?_ ?_); omega) | ((with_reducible refine gdg ?_ ?_); first | with_reducible exact z_0 | exact rIn1 q2.1 q2.2 | exact rIn1 q5.1 q5.2 | exact rIn0 (by omega) | omega) | ((with_reducible apply nng); first | with_reducible exact z_0 | exact rIn1 q2.1 q2.2 | exact rIn1 q5.1 q5.2 | exact rIn0 (by omega)) | ((with_reducible apply bdg); first | with_reducible exact z_0 | exact rIn1 q2.1 q2.2 | exact rIn1 q5.1 q5.2 | exact rIn0 (by omega)) | ((with_reducible apply bd2g); first | with_reducible exact z_0 | exact rIn1 q2.1 q2.2 | exact rIn1 q5.1 q5.2 | exact rIn0 (by omega))))); rfl) (mr_m0n ms (rg_lit rfl))
          · exact MR.of (by (have z_0 := rSn1 w q1.1 q1.2; (repeat' (first | (with_reducible refine ltg ?_) | ((with_reducible refine iteT ?_ ?_); omega) | ((with_reducible refine iteF ?_ ?_); omega) | ((with_reducible refine gdg ?_ ?_); first | with_reducible exact z_0 | exact rIn1 q2.1 q2.2 | exact rIn0 (by omega) | omega) | ((with_reducible apply nng); first | with_reducible exact z_0 | exact rIn1 q2.1 q2.2 | exact rIn0 (by omega)) | ((with_reducible apply bdg); first | with_reducible exact z_0 | exact rIn1 q2.1 q2.2 | exact rIn0 (by omega)) | ((with_reducible apply bd2g); first | with_reducible exact z_0 | exact rIn1 q2.1 q2.2 | exact rIn0 (by omega))))); rfl) (mr_m0n ms (rg_lit rfl))
    · refine ok3 I J ⟨5, 0, ?_, fun h1 p => ?_⟩
      · show XR (fX11_odds h X a b d m) h X _ _
        unfold fX11_odds
        exact XR.of (by (have z_1 := xSn1 H q1.1 q1.2; (repeat' (first | (with_reducible refine ltg ?_) | ((with_reducible refine iteT ?_ ?_); omega) | ((with_reducible refine iteF ?_ ?_); omega) | ((with_reducible refine gdg ?_ ?_); first | with_reducible exact H.k | with_reducible exact z_1 | exact xIn0 (by omega) | omega) | ((with_reducible apply nng); first | with_reducible exact H.k | with_reducible exact z_1 | exact xIn0 (by omega)) | ((with_reducible apply bdg); first | with_reducible exact H.k | with_reducible exact z_1 | exact xIn0 (by omega)) | ((with_reducible apply bd2g); first | with_reducible exact H.k | with_reducible exact z_1 | exact xIn0 (by omega))))); exact bd2_id _) (xr_de H.k (QR.rf h) (rg_lit rfl))
      · obtain ⟨ms, hc, -⟩ := G.q p
        simp only [fX12_odds, lt_d, hK_pI, gR_pI, gA_pI, gB_pI, gC_pI, gJ_pI, ms.r788, nn_s, ms.k0, ms.k5, gd_T, eq_self, hc, bd2_id, Int.reduceToNat]
        exact MR.of (by (have z_0 := rSn1 w q1.1 q1.2; (repeat' (first | (with_reducible refine ltg ?_) | ((with_reducible refine iteT ?_ ?_); omega) | ((with_reducible refine iteF ?_ ?_); omega) | ((with_reducible refine gdg ?_ ?_); first | with_reducible exact z_0 | exact rIn0 (by omega) | omega) | ((with_reducible apply nng); first | with_reducible exact z_0 | exact rIn0 (by omega)) | ((with_reducible apply bdg); first | with_reducible exact z_0 | exact rIn0 (by omega)) | ((with_reducible apply bd2g); first | with_reducible exact z_0 | exact rIn0 (by omega))))); rfl) (mr_m0n ms (rg_lit rfl))
  · refine ok3 I J ⟨2, 0, ?_, fun h1 p => ?_⟩
    · show XR (fX11_odds h X a b d m) h X _ _
      unfold fX11_odds
      exact XR.of (by (have z_1 := xSn0 H (noS q1); (repeat' (first | (with_reducible refine ltg ?_) | ((with_reducible refine iteT ?_ ?_); omega) | ((with_reducible refine iteF ?_ ?_); omega) | ((with_reducible refine gdg ?_ ?_); first | with_reducible exact H.k | with_reducible exact z_1 | omega) | ((with_reducible apply nng); first | with_reducible exact H.k | with_reducible exact z_1) | ((with_reducible apply bdg); first | with_reducible exact H.k | with_reducible exact z_1) | ((with_reducible apply bd2g); first | with_reducible exact H.k | with_reducible exact z_1)))); exact bd2_id _) (xr_de H.k (QR.rf h) (rg_lit rfl))
    · obtain ⟨ms, hc, -⟩ := G.q p
      simp only [fX12_odds, lt_d, hK_pI, gR_pI, gA_pI, gB_pI, gC_pI, gJ_pI, ms.r788, nn_s, ms.k0, ms.k5, gd_T, eq_self, hc, bd2_id, Int.reduceToNat]
      exact MR.of (by (have z_0 := rSn0 w (noS q1); (repeat' (first | (with_reducible refine ltg ?_) | ((with_reducible refine iteT ?_ ?_); omega) | ((with_reducible refine iteF ?_ ?_); omega) | ((with_reducible refine gdg ?_ ?_); first | with_reducible exact z_0 | omega) | ((with_reducible apply nng); first | with_reducible exact z_0) | ((with_reducible apply bdg); first | with_reducible exact z_0) | ((with_reducible apply bd2g); first | with_reducible exact z_0)))); rfl) (mr_m0n ms (rg_lit rfl))

set_option maxHeartbeats 200000 in
theorem w64n {x : Int} {n : Nat} (e : x = (n : Int)) (b : n < 1152921504606846976) : w64 x = (n : Int) := by rw [e]; exact w64_id (by omega) (by omega)
set_option maxHeartbeats 200000 in
theorem fr2 {A B : Nat} (h : A ≤ B) (b8 : B ≤ 16777216) (b0 : 0 < B) : B * B - (B - A) * (B - A) ≤ B * B ∧ 0 < B * B ∧ B * B < 1152921504606846976 ∧
    w64 ((w64 ((B : Int) * (B : Int))) - (w64 ((w64 ((B : Int) - (A : Int))) * (w64 ((B : Int) - (A : Int)))))) = ((B * B - (B - A) * (B - A) : Nat) : Int) ∧ w64 ((B : Int) * (B : Int)) = ((B * B : Nat) : Int) := by
  have M1 : B * B ≤ 16777216 * 16777216 := Nat.mul_le_mul b8 b8
  have M2 : (B - A) * (B - A) ≤ B * B := Nat.mul_le_mul (Nat.sub_le _ _) (Nat.sub_le _ _)
  have M3 : 0 < B * B := Nat.mul_pos b0 b0
  have e1 : (B : Int) - (A : Int) = ((B - A : Nat) : Int) := by omega
  have b1 : B - A < 1152921504606846976 := by omega
  have b2 : B * B < 1152921504606846976 := Nat.lt_of_le_of_lt M1 (by decide)
  have b3 : (B - A) * (B - A) < 1152921504606846976 := Nat.lt_of_le_of_lt M2 b2
  refine ⟨Nat.sub_le _ _, M3, b2, ?_, ?_⟩
  · rw [w64n e1 b1, w64n (Int.natCast_mul (B - A) (B - A)).symm b3, w64n (Int.natCast_mul B B).symm b2]
    exact w64n (Int.ofNat_sub M2).symm (Nat.lt_of_le_of_lt (Nat.sub_le _ _) b2)
  · exact w64n (Int.natCast_mul B B).symm b2

set_option maxHeartbeats 200000 in
theorem ok_safe {h : Hp} {X : Nat} {a b d : Int} (I : Inv h X) : OK3 (fun h => fX11_safe h X a b d) (fun h => fX12_safe h (X + 121) a b d) h X := by
  obtain ⟨c, J, i1, i2, i3⟩ := id I
  have H := J.x
  have G := J.m
  have w := H.wf
  by_cases q1 : okJ c a
  · by_cases q2 : 1 ≤ b ∧ b ≤ 5
    · by_cases q3 : 0 ≤ d ∧ d ≤ 1
      · obtain ⟨n, rfl⟩ := i2n (show 0 ≤ b by omega)
        have a8 := nj_lt w q1
        have a0 := q1.1
        have ek6 : WE (180 + a) := we (by have := q1.1; omega) (by omega)
        have wb := (w.wj q1.1 a8).2.2.2.2.2.1
        obtain ⟨e, ee⟩ := i2n (x := 16 - c (180 + a).toNat) (by omega)
        have e16 : e ≤ 16 := by omega
        have n5 : n ≤ 5 := by omega
        have P1 := pow_bd (b := e) (i := n) e16 (by omega)
        have P2 := pow_bd (b := 16) (i := n) (by omega) (by omega)
        have P3 : e ^ n ≤ 16 ^ n := Nat.pow_le_pow_left e16 n
        have P4 : 0 < 16 ^ n := Nat.pow_pos (by omega)
        have xl := xSafL (a3 := d) H q1 e16 ee n5
        have r1 := rPow e16 n5
        have r2 : fX12_power 16 (n : Int) = some ((16 ^ n : Nat) : Int) := rPow (b := 16) (by omega) n5
        have e64 : w64 (16 - c (180 + a).toNat) = (e : Int) := by rw [ee, w64_id (by omega) (by omega)]
        obtain ⟨P, Q, hPQ, Q0, Q8, hx, hm⟩ : ∃ P Q : Nat, P ≤ Q ∧ 0 < Q ∧ Q < 1152921504606846976 ∧ fX11_safe_b51 X a (n : Int) d 1 h ((e ^ n : Nat) : Int) ((16 ^ n : Nat) : Int) (n : Int) = (bd (fX11_tellFraction h X (P : Int) (Q : Int)) fun h15 => gd ((hK h15 X).1 = 11) <| bd2 (fX11_allow h15 X) fun r17 h19 => some (r17, h19)) ∧
            ∀ t, (if d = 0 then fX12_fraction t (X + 121) ((e ^ n : Nat) : Int) ((16 ^ n : Nat) : Int) else (fX12_fraction t (X + 121) (w64 ((w64 (((16 ^ n : Nat) : Int) * ((16 ^ n : Nat) : Int))) - (w64 ((w64 (((16 ^ n : Nat) : Int) - ((e ^ n : Nat) : Int))) * (w64 (((16 ^ n : Nat) : Int) - ((e ^ n : Nat) : Int))))))) (w64 (((16 ^ n : Nat) : Int) * ((16 ^ n : Nat) : Int))))) = fX12_fraction t (X + 121) (P : Int) (Q : Int) := by
          by_cases q4 : d = 0
          · refine ⟨e ^ n, 16 ^ n, P3, P4, by omega, ?_, fun t => ?_⟩
            · show fX11_safe_b51 X a (n : Int) d (0 + 1) h _ _ _ = _
              rw [fX11_safe_b51.eq_2]
              exact iteF (by omega) (iteT q4 (gdg H.k rfl))
            · rw [if_pos q4]
          · have f2 := fr2 P3 P2 P4
            refine ⟨_, _, f2.1, f2.2.1, f2.2.2.1, ?_, fun t => ?_⟩
            · show fX11_safe_b51 X a (n : Int) d (0 + 1) h _ _ _ = _
              rw [fX11_safe_b51.eq_2]
              refine iteF (by omega) (iteF q4 ?_)
              rw [lt_d, f2.2.2.2.1, f2.2.2.2.2]
              exact gdg H.k rfl
            · rw [if_neg q4, f2.2.2.2.1, f2.2.2.2.2]
        have G1 := G.fra (a := ldv (P : Int) ((Nat.gcd Q P : Nat) : Int)) (b := ldv (Q : Int) ((Nat.gcd Q P : Nat) : Int)) J.z (QR.rf h)
        have e2 : fX11_safe h X a (n : Int) d = some (1, pI (pJ (pJ h 722 X (ldv (P : Int) ((Nat.gcd Q P : Nat) : Int))) 723 X (ldv (Q : Int) ((Nat.gcd Q P : Nat) : Int))) 721 X 0) := by
          unfold fX11_safe
          refine gdg H.k (bdg (xJr1 H q1.1 q1.2) (iteF (by omega) (bdg (xIn1 q2.1 q2.2) (iteF (by omega) (bdg (xIn1 q3.1 q3.2) (iteF (by omega) ?_))))))
          rw [xl, hx]
          refine bdg (xFra H.k hPQ Q0 Q8) (gdg H.k ?_)
          unfold fX11_allow
          exact bd2g (gdg H.k rfl) rfl
        generalize eh1 : pI (pJ (pJ h 722 X (ldv (P : Int) ((Nat.gcd Q P : Nat) : Int))) 723 X (ldv (Q : Int) ((Nat.gcd Q P : Nat) : Int))) 721 X 0 = h1 at e2 G1
        have iv := inv_fra (t2 := m0 h1 X) J (QR.rf h) eh1 (m0_q h1 X) (m0_s h1 X)
        obtain ⟨ms, hc, -⟩ := G1
        have ef := rFra (h := m0 h1 X) (M := X + 121) ms.k hPQ Q0 Q8
        generalize pJ (pJ (m0 h1 X) 770 (X + 121) (ldv (P : Int) ((Nat.gcd Q P : Nat) : Int))) 771 (X + 121) (ldv (Q : Int) ((Nat.gcd Q P : Nat) : Int)) = h2 at iv ef
        refine ⟨1, h1, h2, e2, ?_, iv⟩
        show fX12_safe h1 (X + 121) a (n : Int) d = _
        unfold fX12_safe
        have hc' : gA (pI (pI h1 769 (X + 121) 0) 768 (X + 121) 0) (X + 121 + 5) = c := hc
        have k5 : hK (pI (pI h1 769 (X + 121) 0) 768 (X + 121) 0) (X + 121 + 5) = (21, 1850) := ms.k5
        refine gdg ms.k (ltg (ltg (nng (q := X + 121 + 5) ms.r788 (gdg ms.k5 ?_))))
        rw [hc', k5]
        refine bdg (rJr1 w q1.1 q1.2) (iteF (by omega) (bdg (rIn1 q2.1 q2.2) (iteF (by omega) (bdg (rIn1 q3.1 q3.2) (iteF (by omega) ?_)))))
        rw [ek6.e, e64]
        refine gdg rfl (gdg (by show 0 ≤ _ ∧ _ < (1850 : Int); omega) (bdg r1 (bdg r2 ?_)))
        have hm' := hm (m0 h1 X)
        by_cases q4 : d = 0
        · rw [if_pos q4] at hm'
          refine iteT q4 ?_
          show (bd2 (fX12_fraction (m0 h1 X) (X + 121) ((e ^ n : Nat) : Int) ((16 ^ n : Nat) : Int)) fun r28 h30 => some (r28, h30)) = _
          rw [hm']
          exact bd2g ef rfl
        · rw [if_neg q4] at hm'
          refine iteF q4 ?_
          show (bd2 (fX12_fraction (m0 h1 X) (X + 121) _ _) fun r25 h27 => some (r25, h27)) = _
          rw [hm']
          exact bd2g ef rfl
      · refine ok3 I J ⟨5, 0, ?_, fun h1 p => ?_⟩
        · show XR (fX11_safe h X a b d) h X _ _
          unfold fX11_safe
          exact XR.of (by (have z_1 := xJr1 H q1.1 q1.2; (repeat' (first | (with_reducible refine ltg ?_) | ((with_reducible refine iteT ?_ ?_); omega) | ((with_reducible refine iteF ?_ ?_); omega) | ((with_reducible refine gdg ?_ ?_); first | with_reducible exact H.k | with_reducible exact z_1 | exact xIn1 q2.1 q2.2 | exact xIn0 (by omega) | omega) | ((with_reducible apply nng); first | with_reducible exact H.k | with_reducible exact z_1 | exact xIn1 q2.1 q2.2 | exact xIn0 (by omega)) | ((with_reducible apply bdg); first | with_reducible exact H.k | with_reducible exact z_1 | exact xIn1 q2.1 q2.2 | exact xIn0 (by omega)) | ((with_reducible apply bd2g); first | with_reducible exact H.k | with_reducible exact z_1 | exact xIn1 q2.1 q2.2 | exact xIn0 (by omega))))); exact bd2_id _) (xr_de H.k (QR.rf h) (rg_lit rfl))
        · obtain ⟨ms, hc, -⟩ := G.q p
          simp only [fX12_safe, lt_d, hK_pI, gR_pI, gA_pI, gB_pI, gC_pI, gJ_pI, ms.r788, nn_s, ms.k0, ms.k5, gd_T, eq_self, hc, bd2_id, Int.reduceToNat]
          exact MR.of (by (have z_0 := rJr1 w q1.1 q1.2; (repeat' (first | (with_reducible refine ltg ?_) | ((with_reducible refine iteT ?_ ?_); omega) | ((with_reducible refine iteF ?_ ?_); omega) | ((with_reducible refine gdg ?_ ?_); first | with_reducible exact z_0 | exact rIn1 q2.1 q2.2 | exact rIn0 (by omega) | omega) | ((with_reducible apply nng); first | with_reducible exact z_0 | exact rIn1 q2.1 q2.2 | exact rIn0 (by omega)) | ((with_reducible apply bdg); first | with_reducible exact z_0 | exact rIn1 q2.1 q2.2 | exact rIn0 (by omega)) | ((with_reducible apply bd2g); first | with_reducible exact z_0 | exact rIn1 q2.1 q2.2 | exact rIn0 (by omega))))); rfl) (mr_m0n ms (rg_lit rfl))
    · refine ok3 I J ⟨5, 0, ?_, fun h1 p => ?_⟩
      · show XR (fX11_safe h X a b d) h X _ _
        unfold fX11_safe
        exact XR.of (by (have z_1 := xJr1 H q1.1 q1.2; (repeat' (first | (with_reducible refine ltg ?_) | ((with_reducible refine iteT ?_ ?_); omega) | ((with_reducible refine iteF ?_ ?_); omega) | ((with_reducible refine gdg ?_ ?_); first | with_reducible exact H.k | with_reducible exact z_1 | exact xIn0 (by omega) | omega) | ((with_reducible apply nng); first | with_reducible exact H.k | with_reducible exact z_1 | exact xIn0 (by omega)) | ((with_reducible apply bdg); first | with_reducible exact H.k | with_reducible exact z_1 | exact xIn0 (by omega)) | ((with_reducible apply bd2g); first | with_reducible exact H.k | with_reducible exact z_1 | exact xIn0 (by omega))))); exact bd2_id _) (xr_de H.k (QR.rf h) (rg_lit rfl))
      · obtain ⟨ms, hc, -⟩ := G.q p
        simp only [fX12_safe, lt_d, hK_pI, gR_pI, gA_pI, gB_pI, gC_pI, gJ_pI, ms.r788, nn_s, ms.k0, ms.k5, gd_T, eq_self, hc, bd2_id, Int.reduceToNat]
        exact MR.of (by (have z_0 := rJr1 w q1.1 q1.2; (repeat' (first | (with_reducible refine ltg ?_) | ((with_reducible refine iteT ?_ ?_); omega) | ((with_reducible refine iteF ?_ ?_); omega) | ((with_reducible refine gdg ?_ ?_); first | with_reducible exact z_0 | exact rIn0 (by omega) | omega) | ((with_reducible apply nng); first | with_reducible exact z_0 | exact rIn0 (by omega)) | ((with_reducible apply bdg); first | with_reducible exact z_0 | exact rIn0 (by omega)) | ((with_reducible apply bd2g); first | with_reducible exact z_0 | exact rIn0 (by omega))))); rfl) (mr_m0n ms (rg_lit rfl))
  · refine ok3 I J ⟨2, 0, ?_, fun h1 p => ?_⟩
    · show XR (fX11_safe h X a b d) h X _ _
      unfold fX11_safe
      exact XR.of (by (have z_1 := xJr0 H (noJ q1); (repeat' (first | (with_reducible refine ltg ?_) | ((with_reducible refine iteT ?_ ?_); omega) | ((with_reducible refine iteF ?_ ?_); omega) | ((with_reducible refine gdg ?_ ?_); first | with_reducible exact H.k | with_reducible exact z_1 | omega) | ((with_reducible apply nng); first | with_reducible exact H.k | with_reducible exact z_1) | ((with_reducible apply bdg); first | with_reducible exact H.k | with_reducible exact z_1) | ((with_reducible apply bd2g); first | with_reducible exact H.k | with_reducible exact z_1)))); exact bd2_id _) (xr_de H.k (QR.rf h) (rg_lit rfl))
    · obtain ⟨ms, hc, -⟩ := G.q p
      simp only [fX12_safe, lt_d, hK_pI, gR_pI, gA_pI, gB_pI, gC_pI, gJ_pI, ms.r788, nn_s, ms.k0, ms.k5, gd_T, eq_self, hc, bd2_id, Int.reduceToNat]
      exact MR.of (by (have z_0 := rJr0 w (noJ q1); (repeat' (first | (with_reducible refine ltg ?_) | ((with_reducible refine iteT ?_ ?_); omega) | ((with_reducible refine iteF ?_ ?_); omega) | ((with_reducible refine gdg ?_ ?_); first | with_reducible exact z_0 | omega) | ((with_reducible apply nng); first | with_reducible exact z_0) | ((with_reducible apply bdg); first | with_reducible exact z_0) | ((with_reducible apply bd2g); first | with_reducible exact z_0)))); rfl) (mr_m0n ms (rg_lit rfl))

set_option maxHeartbeats 200000 in
theorem rRoC {h : Hp} {M : Nat} {a b v : Int} (ms : MS h M) : ∃ t : Hp, (On (fun x => x = M + 22) h t ∧ ∀ x, x < 8 → gA t (M + 22) x = gA h (M + 21) x) ∧ fX12_road_b55 M a b FU h v 0 = some (v, t) :=
  fk (S := Hp) (T := Hp) (fun fu x t => fX12_road_b55 M a b fu t v x) (fun t => some (v, t)) 8 (fun i t => On (fun x => x = M + 22) h t ∧ ∀ x, x < i → gA t (M + 22) x = gA h (M + 21) x) (fun t => On (fun x => x = M + 22) h t ∧ ∀ x, x < 8 → gA t (M + 22) x = gA h (M + 21) x) 0 h (by omega) ⟨On.rf h, fun x hx => absurd hx (by omega)⟩ (by omega)
    (fun fu i t hi hI => by
      obtain ⟨p1, p2⟩ := hI
      have e5 : WE ((i : Int) + 1) := we (by omega) (by omega)
      have kM : (hK t M).1 = 12 := by rw [p1.k]; exact ms.k
      have k21 : hK t (M + 21) = (21, 8) := p1.ka ms.k21
      have k22 : hK t (M + 22) = (21, 8) := p1.ka ms.k22
      have rr : rg (gA t (M + 21) i) := ti_rg _
      left
      refine ⟨sA t (M + 22) (i : Int) (gA t (M + 21) i), ⟨p1.tr (on_sA t rfl), fun x hx => ?_⟩, ?_⟩
      · rw [gA_sA]
        by_cases y : x = i
        · rw [if_pos ⟨rfl, by omega⟩, w32_of rr, y]
          exact p1.a (by omega)
        · rw [if_neg (fun y2 => y (by have := y2.2; omega))]
          exact p2 x (by omega)
      · show fX12_road_b55 M a b (fu + 1) t v (i : Int) = fX12_road_b55 M a b fu (sA t (M + 22) (i : Int) (gA t (M + 21) i)) v ((i : Int) + 1)
        rw [fX12_road_b55.eq_2]
        refine iteT (by omega) (gdg kM (nng (by rw [p1.r (by omega)]; exact ms.r815) (nng (by rw [p1.r (by omega)]; exact ms.r814) (gdg (by rw [k21]) (gdg (by rw [k21]; show 0 ≤ _ ∧ _ < (8 : Int); omega) (gdg (by rw [k22]) (gdg (by rw [k22]; show 0 ≤ _ ∧ _ < (8 : Int); omega) ?_)))))))
        rw [lt_d, lt_d, e5.e]
        rfl)
    (fun fu t hI => by
      refine ⟨t, hI, ?_⟩
      show fX12_road_b55 M a b (fu + 1) t v ((8 : Nat) : Int) = _
      rw [fX12_road_b55.eq_2]
      exact iteF (by omega) rfl)

set_option maxHeartbeats 200000 in
theorem ok_road {h : Hp} {X : Nat} {a b : Int} (I : Inv h X) : OK3 (fun h => fX11_road h X a b) (fun h => fX12_road h (X + 121) a b) h X := by
  obtain ⟨c, J, i1, i2, i3⟩ := id I
  have H := J.x
  have G := J.m
  have w := H.wf
  by_cases q1 : 0 ≤ a ∧ a ≤ 9999
  · by_cases q2 : 1 ≤ b ∧ b ≤ 30
    · obtain ⟨n, rfl⟩ := i2n (show 0 ≤ b by omega)
      obtain ⟨S, u1, u2, u3, u4, u5, u6⟩ := H.shop
      obtain ⟨t, ⟨y1, y2⟩, y3⟩ := xTrv (h := h) (S := S) (T := X + 102) (n := n) (a1 := a) u3 w H.1.k102 (by unfold SO at u6; omega) (by omega)
      have kx : (hK t X).1 = 11 := by rw [y1.k]; exact H.k
      have e1 : fX11_road h X a (n : Int) = some (((trS c a n).1 : Int), pI t 721 X 0) := by
        unfold fX11_road
        refine bdg (xIn1 q1.1 q1.2) (iteF (by omega) (bdg (xIn1 q2.1 q2.2) (iteF (by omega) (gdg H.k (nng u1 (nng H.1.r713 (gdg u2 (bd2g y3 (gdg kx ?_)))))))))
        unfold fX11_answer
        exact bd2g (gdg kx rfl) rfl
      have p1 : FL [102, 143] [(813, 121)] X h (pI t 721 X 0) := (fl_on y1 (fun b hb => Or.inr ⟨102, by decide, hb⟩)).tr (fl_q (q_pI t (Or.inl ⟨rfl, rfl⟩)))
      have s1 : gI (pI t 721 X 0) 721 X = 0 := gI_pIs (rg_lit rfl)
      have y2 : ∀ x, x < 8 → gA (pI t 721 X 0) (X + 102) x = (trS c a n).2.2 x := y2
      have G1 := G.fl p1 J.z (by decide +kernel)
      generalize pI t 721 X 0 = h1 at e1 p1 G1 y2 s1
      have z1 : X + 144 ≤ hZ h1 := Nat.le_trans J.z p1.1
      obtain ⟨t2, ⟨v1, v2, v3⟩, v4⟩ := rTrv (h := pI (pI h1 769 (X + 121) 0) 768 (X + 121) 0) (n := n) (a1 := a) (G1.q (m0_q h1 X)) w (by omega) ⟨by omega, by omega⟩
      have qm := (m0_q h1 X).tr v1
      have p2 : FL [102, 143] [(813, 121)] X h1 (pI t2 813 (X + 121) 1) := (fl_m qm).tr (fl_pI t2 121 rfl (by decide))
      have G2 := G1.fl p2 z1 (by decide +kernel)
      have s2 : gI (pI t2 813 (X + 121) 1) 768 (X + 121) = 0 := by rw [gI_n (by omega)]; exact v2.trans (m0_s h1 X)
      have s3 : gI (pI t2 813 (X + 121) 1) 813 (X + 121) = 1 := gI_pIs (rg_lit rfl)
      have v3 : ∀ x, x < 8 → gA (pI t2 813 (X + 121) 1) (X + 121 + 21) x = (trS c a n).2.2 x := v3
      have kt2 : (hK t2 (X + 121)).1 = 12 := (G1.q qm).1.k
      obtain ⟨t4, ⟨w1, w2⟩, w3⟩ := rRoC (h := pI t2 813 (X + 121) 1) (M := X + 121) (a := a) (b := (n : Int)) (v := ((trS c a n).1 : Int)) G2.1
      have p3 : FL [102, 143] [(813, 121)] X (pI t2 813 (X + 121) 1) t4 := fl_on w1 (fun b hb => Or.inr ⟨143, by decide, hb⟩)
      have p := (p1.tr p2).tr p3
      have r1 := ((fl_m (E := [143]) (F := [(813, 121)]) qm).tr ((fl_pI t2 121 rfl (by decide)).tr (fl_on w1 (fun b hb => Or.inr ⟨143, by decide, hb⟩)))).ro z1 (i := 102) (by decide +kernel)
      have n0 : ¬ sc X X := by unfold sc; omega
      have n1 : ¬ sc X (X + 121) := by unfold sc; omega
      refine ⟨_, h1, t4, e1, ?_, c, ⟨J.x.fl J.b p (by decide +kernel) (by decide +kernel), J.m.fl p J.z (by decide +kernel), J.b.fl p (by decide +kernel) (by decide +kernel), J.tr.fl p J.z (by decide +kernel), J.tp.fl p J.z (by decide +kernel), J.mk.fl p J.z (by decide +kernel) (fun _ _ => rfl), ⟨Or.inr ((w1.i (by omega)).trans s3), fun j hj => ?_⟩, J.mg.fl p J.z (by decide +kernel), J.cn.fl p J.z (by decide +kernel), J.sf.fl p J.z (by decide +kernel)⟩, ?_, ?_, ?_⟩
      · show fX12_road h1 (X + 121) a (n : Int) = _
        obtain ⟨ms, hc, -⟩ := G1
        simp only [fX12_road, lt_d, hK_pI, gR_pI, gA_pI, gB_pI, gC_pI, gJ_pI, ms.r788, nn_s, ms.k0, ms.k5, gd_T, eq_self, hc, bd2_id, Int.reduceToNat]
        refine bdg (rIn1 q1.1 q1.2) (iteF (by omega) (bdg (rIn1 q2.1 q2.2) (iteF (by omega) (bd2g v4 (gdg kt2 w3)))))
      · rw [w1.i (by omega), s3, if_neg (by omega), r1.1, y2 j hj, w2 j hj, v3 j hj]
      · rw [w1.i (by omega), w1.i (by omega), s2, gI_n (by omega), qm.i n0 (fun z => by unfold pM at z; omega), s1]
      · rw [(p.f0 J.z (f := 722) (by decide +kernel)).2.1, (p.fi J.z (f := 770) (i := 121) (by decide +kernel)).2.1]; exact i2
      · rw [(p.f0 J.z (f := 723) (by decide +kernel)).2.1, (p.fi J.z (f := 771) (i := 121) (by decide +kernel)).2.1]; exact i3
    · refine ok3 I J ⟨5, -1, ?_, fun h1 p => ?_⟩
      · show XR (fX11_road h X a b) h X _ _
        unfold fX11_road
        exact XR.of (by (repeat' (first | (with_reducible refine ltg ?_) | ((with_reducible refine iteT ?_ ?_); omega) | ((with_reducible refine iteF ?_ ?_); omega) | ((with_reducible refine gdg ?_ ?_); first | with_reducible exact H.k | exact xIn1 q1.1 q1.2 | exact xIn0 (by omega) | omega) | ((with_reducible apply nng); first | with_reducible exact H.k | exact xIn1 q1.1 q1.2 | exact xIn0 (by omega)) | ((with_reducible apply bdg); first | with_reducible exact H.k | exact xIn1 q1.1 q1.2 | exact xIn0 (by omega)) | ((with_reducible apply bd2g); first | with_reducible exact H.k | exact xIn1 q1.1 q1.2 | exact xIn0 (by omega)))); exact bd2_id _) (xr_re H.k (QR.rf h) (rg_lit rfl))
      · obtain ⟨ms, hc, -⟩ := G.q p
        simp only [fX12_road, lt_d, hK_pI, gR_pI, gA_pI, gB_pI, gC_pI, gJ_pI, ms.r788, nn_s, ms.k0, ms.k5, gd_T, eq_self, hc, bd2_id, Int.reduceToNat]
        exact MR.of (by (repeat' (first | (with_reducible refine ltg ?_) | ((with_reducible refine iteT ?_ ?_); omega) | ((with_reducible refine iteF ?_ ?_); omega) | ((with_reducible refine gdg ?_ ?_); first | exact rIn1 q1.1 q1.2 | exact rIn0 (by omega) | omega) | ((with_reducible apply nng); first | exact rIn1 q1.1 q1.2 | exact rIn0 (by omega)) | ((with_reducible apply bdg); first | exact rIn1 q1.1 q1.2 | exact rIn0 (by omega)) | ((with_reducible apply bd2g); first | exact rIn1 q1.1 q1.2 | exact rIn0 (by omega)))); rfl) (mr_m0r ms (rg_lit rfl))
  · refine ok3 I J ⟨5, -1, ?_, fun h1 p => ?_⟩
    · show XR (fX11_road h X a b) h X _ _
      unfold fX11_road
      exact XR.of (by (repeat' (first | (with_reducible refine ltg ?_) | ((with_reducible refine iteT ?_ ?_); omega) | ((with_reducible refine iteF ?_ ?_); omega) | ((with_reducible refine gdg ?_ ?_); first | with_reducible exact H.k | exact xIn0 (by omega) | omega) | ((with_reducible apply nng); first | with_reducible exact H.k | exact xIn0 (by omega)) | ((with_reducible apply bdg); first | with_reducible exact H.k | exact xIn0 (by omega)) | ((with_reducible apply bd2g); first | with_reducible exact H.k | exact xIn0 (by omega)))); exact bd2_id _) (xr_re H.k (QR.rf h) (rg_lit rfl))
    · obtain ⟨ms, hc, -⟩ := G.q p
      simp only [fX12_road, lt_d, hK_pI, gR_pI, gA_pI, gB_pI, gC_pI, gJ_pI, ms.r788, nn_s, ms.k0, ms.k5, gd_T, eq_self, hc, bd2_id, Int.reduceToNat]
      exact MR.of (by (repeat' (first | (with_reducible refine ltg ?_) | ((with_reducible refine iteT ?_ ?_); omega) | ((with_reducible refine iteF ?_ ?_); omega) | ((with_reducible refine gdg ?_ ?_); first | exact rIn0 (by omega) | omega) | ((with_reducible apply nng); first | exact rIn0 (by omega)) | ((with_reducible apply bdg); first | exact rIn0 (by omega)) | ((with_reducible apply bd2g); first | exact rIn0 (by omega)))); rfl) (mr_m0r ms (rg_lit rfl))
