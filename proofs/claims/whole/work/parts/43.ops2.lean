/-! QUERIES, second lot (written by wip/whole/g43.py) -/
set_option maxHeartbeats 200000 in
theorem xr_de {h h1 : Hp} {X : Nat} {st : Int} (k : (hK h1 X).1 = 11) (q : QX X h h1) (rs : rg st) : XR (fX11_deny h1 X st) h X st 0 :=
  ⟨pI h1 721 X st, gdg k (ltg rfl), q.tr (q_pI h1 (Or.inl ⟨rfl, rfl⟩)), gI_pIs rs⟩
set_option maxHeartbeats 200000 in
theorem mr_m0n {h : Hp} {X : Nat} {st : Int} (ms : MS h (X + 121)) (rs : rg st) : MR (fX12_no (pI (pI h 769 (X + 121) 0) 768 (X + 121) 0) (X + 121) st) h X st 0 :=
  ⟨pI (pI (pI h 769 (X + 121) 0) 768 (X + 121) 0) 768 (X + 121) st, gdg ms.k (ltg rfl), (m0_q h X).tr (q_pI _ ⟨rfl, by omega⟩), gI_pIs rs⟩
set_option maxHeartbeats 200000 in
theorem xr_ns {h h1 : Hp} {X : Nat} {v : Int} (k : (hK h1 X).1 = 11) (q : QX X h h1) (z : ¬ v = -1) : XR (fX11_answerOrNoSuch h1 X v) h X 0 v :=
  XR.of (by unfold fX11_answerOrNoSuch; exact iteF z (gdg k (bd2_id _))) (xr_an k q)
set_option maxHeartbeats 200000 in
theorem xr_nn {h h1 : Hp} {X : Nat} (k : (hK h1 X).1 = 11) (q : QX X h h1) : XR (fX11_answerOrNoSuch h1 X (-1)) h X 8 (-1) :=
  XR.of (by unfold fX11_answerOrNoSuch; exact iteT rfl (gdg k (bd2_id _))) (xr_re k q (rg_lit rfl))
set_option maxHeartbeats 200000 in
theorem mul_bd {x y a b : Int} (x0 : 0 ≤ x) (xa : x ≤ a) (y0 : 0 ≤ y) (yb : y ≤ b) : 0 ≤ x * y ∧ x * y ≤ a * b := ⟨Int.mul_nonneg x0 y0, Int.mul_le_mul xa yb y0 (Int.le_trans x0 xa)⟩
/-- the first day with m LETTERS -/
def fdO (c : Nat → Int) (j m : Int) : Prop := ¬ c (188 + j).toNat = 0 ∧ m ≤ c (188 + j).toNat ∧ ¬ (c (148 + j).toNat = 0 ∧ m < c (188 + j).toNat)
def fdS (c : Nat → Int) (j m : Int) : Int := c (196 + j).toNat + (c (188 + j).toNat - m) * c (148 + j).toNat
set_option maxHeartbeats 200000 in
theorem fdS_bd {c : Nat → Int} {j m : Int} (w : WJ c j) (m0 : 0 ≤ m) (q : fdO c j m) : 0 ≤ fdS c j m ∧ fdS c j m ≤ 3000 ∧ 0 ≤ (c (188 + j).toNat - m) * c (148 + j).toNat ∧ (c (188 + j).toNat - m) * c (148 + j).toNat ≤ 1188 := by
  have h1 := w.1
  have h2 := w.2.1
  have h6 := w.2.2.2.2.2.2.1
  have h7 := w.2.2.2.2.2.2.2.1
  have h := mul_bd (x := c (188 + j).toNat - m) (y := c (148 + j).toNat) (a := 12) (b := 99) (by have := q.2.1; omega) (by omega) h2.1 h2.2
  unfold fdS
  omega
set_option maxHeartbeats 200000 in
theorem xFd1 {h : Hp} {a : Nat} {c : Nat → Int} {j m : Int} (k : (hK h a).1 = 0) (v : JV h a c j) (w : WJ c j) (m0 : 0 ≤ m) (q : fdO c j m) : fX0_firstDayWith h a m = some (fdS c j m) := by
  have b := fdS_bd w m0 q
  have q21 := q.2.1
  have h1 := w.1
  have h6 := w.2.2.2.2.2.2.1
  have h7 := w.2.2.2.2.2.2.2.1
  have e2 : fX0_firstDayWith_b32 h a m = some (fdS c j m) := by
    unfold fX0_firstDayWith_b32
    rw [v.2.1, v.2.2.2.2.2.2.1, v.2.2.2.2.2.2.2.1, w32_id (x := c (188 + j).toNat - m) (by omega) (by have := q.2.1; omega), w32_id (x := (c (188 + j).toNat - m) * c (148 + j).toNat) (by omega) (by omega)]
    refine gdg k ?_
    unfold fdS
    rw [w32_id (by omega) (by omega)]
  have e1 : fX0_isEmpty h a = some 0 := by
    unfold fX0_isEmpty
    rw [v.2.2.2.2.2.2.1, if_neg q.1]
    exact gdg k rfl
  unfold fX0_firstDayWith
  rw [v.2.1, v.2.2.2.2.2.2.1]
  refine gdg k (bdg e1 (iteT rfl (iteT q.2.1 ?_)))
  by_cases z : c (148 + j).toNat = 0
  · exact iteT z (iteF (fun z2 => q.2.2 ⟨z, z2⟩) e2)
  · exact iteF z e2
set_option maxHeartbeats 200000 in
theorem xFd0 {h : Hp} {a : Nat} {c : Nat → Int} {j m : Int} (k : (hK h a).1 = 0) (v : JV h a c j) (q : ¬ fdO c j m) : fX0_firstDayWith h a m = some (-1) := by
  unfold fdO at q
  unfold fX0_firstDayWith
  rw [v.2.1, v.2.2.2.2.2.2.1]
  refine gdg k ?_
  by_cases z1 : c (188 + j).toNat = 0
  · have e1 : fX0_isEmpty h a = some 1 := by
      unfold fX0_isEmpty
      rw [v.2.2.2.2.2.2.1, if_pos z1]
      exact gdg k rfl
    exact bdg e1 (iteF (by omega) rfl)
  · have e1 : fX0_isEmpty h a = some 0 := by
      unfold fX0_isEmpty
      rw [v.2.2.2.2.2.2.1, if_neg z1]
      exact gdg k rfl
    refine bdg e1 (iteT rfl ?_)
    by_cases z2 : m ≤ c (188 + j).toNat
    · refine iteT z2 ?_
      by_cases z3 : c (148 + j).toNat = 0
      · refine iteT z3 (iteT ?_ rfl)
        by_cases z4 : m < c (188 + j).toNat
        · exact z4
        · exact absurd ⟨z1, z2, fun z => z4 z.2⟩ q
      · exact absurd ⟨z1, z2, fun z => z3 z.1⟩ q
    · exact iteF z2 rfl

set_option maxHeartbeats 200000 in
theorem ok_lost {h : Hp} {X : Nat} {c : Nat → Int} {a : Int} (H : CX h X c) (G : CM h X c) : OK2 (fun h => fX11_lost h X a) (fun h => fX12_lost h (X + 121) a) h X := by
  have w := H.wf
  by_cases q1 : okJ c a
  · obtain ⟨S, J, f1, f2, f3, f4, f5, f6, f7, f8, f9⟩ := H.jar q1
    have j8 : a < 8 := nj_lt w q1
    have wj := w.wj q1.1 j8
    have wd := w.day
    have w1 := wj.1
    have w2 := wj.2.1
    have w6 := wj.2.2.2.2.2.2.1
    have w7 := wj.2.2.2.2.2.2.2.1
    have e7 : fX0_lostBy h J (gI h 719 X) = some (lostS c a (c 0)) := by rw [H.2.2.1]; exact xLos f7 f8 wj wd.1 (by omega)
    refine ⟨0, lostS c a (c 0), ?_, fun h1 p => ?_⟩
    · show XR (fX11_lost h X a) h X _ _
      unfold fX11_lost
      exact XR.of (by (have z_1 := xJr1 H q1.1 q1.2; (repeat' (first | (with_reducible refine ltg ?_) | ((with_reducible refine iteT ?_ ?_); omega) | ((with_reducible refine iteF ?_ ?_); omega) | ((with_reducible refine gdg ?_ ?_); first | with_reducible exact H.k | with_reducible exact z_1 | with_reducible exact f1 | with_reducible exact f2 | with_reducible exact f3 | with_reducible exact f4 | with_reducible exact f5 | with_reducible exact f6 | with_reducible exact f7 | with_reducible exact e7 | omega) | ((with_reducible apply nng); first | with_reducible exact H.k | with_reducible exact z_1 | with_reducible exact f1 | with_reducible exact f2 | with_reducible exact f3 | with_reducible exact f4 | with_reducible exact f5 | with_reducible exact f6 | with_reducible exact f7 | with_reducible exact e7) | ((with_reducible apply bdg); first | with_reducible exact H.k | with_reducible exact z_1 | with_reducible exact f1 | with_reducible exact f2 | with_reducible exact f3 | with_reducible exact f4 | with_reducible exact f5 | with_reducible exact f6 | with_reducible exact f7 | with_reducible exact e7) | ((with_reducible apply bd2g); first | with_reducible exact H.k | with_reducible exact z_1 | with_reducible exact f1 | with_reducible exact f2 | with_reducible exact f3 | with_reducible exact f4 | with_reducible exact f5 | with_reducible exact f6 | with_reducible exact f7 | with_reducible exact e7)))); exact bd2_id _) (xr_an H.k (QR.rf h))
    · obtain ⟨ms, hc, -⟩ := G.q p
      have ga : 0 ≤ a := q1.1
      simp only [fX12_lost, lt_d, hK_pI, gR_pI, gA_pI, gB_pI, gC_pI, gJ_pI, ms.r788, nn_s, ms.k0, ms.k5, gd_T, eq_self, hc, bd2_id, Int.reduceToNat, w32_id (x := 196 + a) (by omega) (by omega), w32_id (x := 188 + a) (by omega) (by omega)]
      by_cases z : c 0 < c (196 + a).toNat
      · rw [lostS_0 z]
        exact MR.of (by (have z_0 := rJr1 w q1.1 q1.2; (repeat' (first | (with_reducible refine ltg ?_) | ((with_reducible refine iteT ?_ ?_); omega) | ((with_reducible refine iteF ?_ ?_); omega) | ((with_reducible refine gdg ?_ ?_); first | with_reducible exact z_0 | omega) | ((with_reducible apply nng); first | with_reducible exact z_0) | ((with_reducible apply bdg); first | with_reducible exact z_0) | ((with_reducible apply bd2g); first | with_reducible exact z_0)))); rfl) mr_m0
      · rw [lostS_1 z, w32_id (x := c 0 - c (196 + a).toNat) (by omega) (by omega)]
        exact MR.of (by (have z_0 := rJr1 w q1.1 q1.2; (repeat' (first | (with_reducible refine ltg ?_) | ((with_reducible refine iteT ?_ ?_); omega) | ((with_reducible refine iteF ?_ ?_); omega) | ((with_reducible refine gdg ?_ ?_); first | with_reducible exact z_0 | exact rGone wj ga j8 (by omega) (by omega) | omega) | ((with_reducible apply nng); first | with_reducible exact z_0 | exact rGone wj ga j8 (by omega) (by omega)) | ((with_reducible apply bdg); first | with_reducible exact z_0 | exact rGone wj ga j8 (by omega) (by omega)) | ((with_reducible apply bd2g); first | with_reducible exact z_0 | exact rGone wj ga j8 (by omega) (by omega))))); rfl) mr_m0
  · refine ⟨2, -1, ?_, fun h1 p => ?_⟩
    · show XR (fX11_lost h X a) h X _ _
      unfold fX11_lost
      exact XR.of (by (have z_1 := xJr0 H (noJ q1); (repeat' (first | (with_reducible refine ltg ?_) | ((with_reducible refine iteT ?_ ?_); omega) | ((with_reducible refine iteF ?_ ?_); omega) | ((with_reducible refine gdg ?_ ?_); first | with_reducible exact H.k | with_reducible exact z_1 | omega) | ((with_reducible apply nng); first | with_reducible exact H.k | with_reducible exact z_1) | ((with_reducible apply bdg); first | with_reducible exact H.k | with_reducible exact z_1) | ((with_reducible apply bd2g); first | with_reducible exact H.k | with_reducible exact z_1)))); exact bd2_id _) (xr_re H.k (QR.rf h) (rg_lit rfl))
    · obtain ⟨ms, hc, -⟩ := G.q p
      simp only [fX12_lost, lt_d, hK_pI, gR_pI, gA_pI, gB_pI, gC_pI, gJ_pI, ms.r788, nn_s, ms.k0, ms.k5, gd_T, eq_self, hc, bd2_id, Int.reduceToNat]
      exact MR.of (by (have z_0 := rJr0 w (noJ q1); (repeat' (first | (with_reducible refine ltg ?_) | ((with_reducible refine iteT ?_ ?_); omega) | ((with_reducible refine iteF ?_ ?_); omega) | ((with_reducible refine gdg ?_ ?_); first | with_reducible exact z_0 | omega) | ((with_reducible apply nng); first | with_reducible exact z_0) | ((with_reducible apply bdg); first | with_reducible exact z_0) | ((with_reducible apply bd2g); first | with_reducible exact z_0)))); rfl) (mr_m0r ms (rg_lit rfl))

set_option maxHeartbeats 200000 in
theorem ok_silent {h : Hp} {X : Nat} {c : Nat → Int} {a : Int} (H : CX h X c) (G : CM h X c) : OK2 (fun h => fX11_silent h X a) (fun h => fX12_silent h (X + 121) a) h X := by
  have w := H.wf
  by_cases q1 : okJ c a
  · obtain ⟨S, J, f1, f2, f3, f4, f5, f6, f7, f8, f9⟩ := H.jar q1
    have j8 : a < 8 := nj_lt w q1
    have wj := w.wj q1.1 j8
    have wd := w.day
    have w1 := wj.1
    have w2 := wj.2.1
    have w6 := wj.2.2.2.2.2.2.1
    have w7 := wj.2.2.2.2.2.2.2.1
    have ga : 0 ≤ a := q1.1
    by_cases z : fdO c a 0
    · have b := fdS_bd wj (Int.le_refl 0) z
      have zz : ¬ c (148 + a).toNat = 0 := fun e => z.2.2 ⟨e, by have := z.1; omega⟩
      refine ⟨0, fdS c a 0, ?_, fun h1 p => ?_⟩
      · show XR (fX11_silent h X a) h X _ _
        unfold fX11_silent
        exact XR.of (by (have z_1 := xJr1 H q1.1 q1.2; have z_9 := xFd1 f7 f8 wj (Int.le_refl 0) z; (repeat' (first | (with_reducible refine ltg ?_) | ((with_reducible refine iteT ?_ ?_); omega) | ((with_reducible refine iteF ?_ ?_); omega) | ((with_reducible refine gdg ?_ ?_); first | with_reducible exact H.k | with_reducible exact z_1 | with_reducible exact f1 | with_reducible exact f2 | with_reducible exact f3 | with_reducible exact f4 | with_reducible exact f5 | with_reducible exact f6 | with_reducible exact f7 | with_reducible exact z_9 | omega) | ((with_reducible apply nng); first | with_reducible exact H.k | with_reducible exact z_1 | with_reducible exact f1 | with_reducible exact f2 | with_reducible exact f3 | with_reducible exact f4 | with_reducible exact f5 | with_reducible exact f6 | with_reducible exact f7 | with_reducible exact z_9) | ((with_reducible apply bdg); first | with_reducible exact H.k | with_reducible exact z_1 | with_reducible exact f1 | with_reducible exact f2 | with_reducible exact f3 | with_reducible exact f4 | with_reducible exact f5 | with_reducible exact f6 | with_reducible exact f7 | with_reducible exact z_9) | ((with_reducible apply bd2g); first | with_reducible exact H.k | with_reducible exact z_1 | with_reducible exact f1 | with_reducible exact f2 | with_reducible exact f3 | with_reducible exact f4 | with_reducible exact f5 | with_reducible exact f6 | with_reducible exact f7 | with_reducible exact z_9)))); exact bd2_id _) (xr_ns H.k (QR.rf h) (by omega))
      · obtain ⟨ms, hc, -⟩ := G.q p
        have e : fdS c a 0 = c (196 + a).toNat + c (188 + a).toNat * c (148 + a).toNat := by unfold fdS; rw [Int.sub_zero]
        have b2 := b.2.2
        rw [Int.sub_zero] at b2
        have z1 := z.1
        simp only [fX12_silent, lt_d, hK_pI, gR_pI, gA_pI, gB_pI, gC_pI, gJ_pI, ms.r788, nn_s, ms.k0, ms.k5, gd_T, eq_self, hc, bd2_id, Int.reduceToNat, w32_id (x := 196 + a) (by omega) (by omega), w32_id (x := 188 + a) (by omega) (by omega), w32_id (x := 148 + a) (by omega) (by omega), w32_id (x := c (188 + a).toNat * c (148 + a).toNat) (by omega) (by omega), w32_id (x := c (196 + a).toNat + c (188 + a).toNat * c (148 + a).toNat) (by omega) (by omega)]
        rw [e]
        exact MR.of (by (have z_0 := rJr1 w q1.1 q1.2; (repeat' (first | (with_reducible refine ltg ?_) | ((with_reducible refine iteT ?_ ?_); omega) | ((with_reducible refine iteF ?_ ?_); omega) | ((with_reducible refine gdg ?_ ?_); first | with_reducible exact z_0 | omega) | ((with_reducible apply nng); first | with_reducible exact z_0) | ((with_reducible apply bdg); first | with_reducible exact z_0) | ((with_reducible apply bd2g); first | with_reducible exact z_0)))); rfl) mr_m0
    · refine ⟨8, -1, ?_, fun h1 p => ?_⟩
      · show XR (fX11_silent h X a) h X _ _
        unfold fX11_silent
        exact XR.of (by (have z_1 := xJr1 H q1.1 q1.2; have z_9 := xFd0 f7 f8 z; (repeat' (first | (with_reducible refine ltg ?_) | ((with_reducible refine iteT ?_ ?_); omega) | ((with_reducible refine iteF ?_ ?_); omega) | ((with_reducible refine gdg ?_ ?_); first | with_reducible exact H.k | with_reducible exact z_1 | with_reducible exact f1 | with_reducible exact f2 | with_reducible exact f3 | with_reducible exact f4 | with_reducible exact f5 | with_reducible exact f6 | with_reducible exact f7 | with_reducible exact z_9 | omega) | ((with_reducible apply nng); first | with_reducible exact H.k | with_reducible exact z_1 | with_reducible exact f1 | with_reducible exact f2 | with_reducible exact f3 | with_reducible exact f4 | with_reducible exact f5 | with_reducible exact f6 | with_reducible exact f7 | with_reducible exact z_9) | ((with_reducible apply bdg); first | with_reducible exact H.k | with_reducible exact z_1 | with_reducible exact f1 | with_reducible exact f2 | with_reducible exact f3 | with_reducible exact f4 | with_reducible exact f5 | with_reducible exact f6 | with_reducible exact f7 | with_reducible exact z_9) | ((with_reducible apply bd2g); first | with_reducible exact H.k | with_reducible exact z_1 | with_reducible exact f1 | with_reducible exact f2 | with_reducible exact f3 | with_reducible exact f4 | with_reducible exact f5 | with_reducible exact f6 | with_reducible exact f7 | with_reducible exact z_9)))); exact bd2_id _) (xr_nn H.k (QR.rf h))
      · obtain ⟨ms, hc, -⟩ := G.q p
        unfold fdO at z
        simp only [fX12_silent, lt_d, hK_pI, gR_pI, gA_pI, gB_pI, gC_pI, gJ_pI, ms.r788, nn_s, ms.k0, ms.k5, gd_T, eq_self, hc, bd2_id, Int.reduceToNat, w32_id (x := 196 + a) (by omega) (by omega), w32_id (x := 188 + a) (by omega) (by omega), w32_id (x := 148 + a) (by omega) (by omega)]
        refine MR.of (bdg (rJr1 w q1.1 q1.2) (iteF (by omega) (gdg (by omega) ?_))) (mr_m0r ms (rg_lit rfl))
        by_cases z1 : c (188 + a).toNat = 0
        · exact iteT z1 rfl
        · exact iteF z1 (gdg (by omega) (iteT (by omega) rfl))
  · refine ⟨2, -1, ?_, fun h1 p => ?_⟩
    · show XR (fX11_silent h X a) h X _ _
      unfold fX11_silent
      exact XR.of (by (have z_1 := xJr0 H (noJ q1); (repeat' (first | (with_reducible refine ltg ?_) | ((with_reducible refine iteT ?_ ?_); omega) | ((with_reducible refine iteF ?_ ?_); omega) | ((with_reducible refine gdg ?_ ?_); first | with_reducible exact H.k | with_reducible exact z_1 | omega) | ((with_reducible apply nng); first | with_reducible exact H.k | with_reducible exact z_1) | ((with_reducible apply bdg); first | with_reducible exact H.k | with_reducible exact z_1) | ((with_reducible apply bd2g); first | with_reducible exact H.k | with_reducible exact z_1)))); exact bd2_id _) (xr_re H.k (QR.rf h) (rg_lit rfl))
    · obtain ⟨ms, hc, -⟩ := G.q p
      simp only [fX12_silent, lt_d, hK_pI, gR_pI, gA_pI, gB_pI, gC_pI, gJ_pI, ms.r788, nn_s, ms.k0, ms.k5, gd_T, eq_self, hc, bd2_id, Int.reduceToNat]
      exact MR.of (by (have z_0 := rJr0 w (noJ q1); (repeat' (first | (with_reducible refine ltg ?_) | ((with_reducible refine iteT ?_ ?_); omega) | ((with_reducible refine iteF ?_ ?_); omega) | ((with_reducible refine gdg ?_ ?_); first | with_reducible exact z_0 | omega) | ((with_reducible apply nng); first | with_reducible exact z_0) | ((with_reducible apply bdg); first | with_reducible exact z_0) | ((with_reducible apply bd2g); first | with_reducible exact z_0)))); rfl) (mr_m0r ms (rg_lit rfl))

set_option maxHeartbeats 200000 in
theorem ok_letter {h : Hp} {X : Nat} {c : Nat → Int} {a k : Int} (H : CX h X c) (G : CM h X c) : OK2 (fun h => fX11_letter h X a k) (fun h => fX12_letter h (X + 121) a k) h X := by
  have w := H.wf
  by_cases q1 : okS c a
  · have j8 := ns_lt w q1
    have ga : 0 ≤ a := q1.1
    have ws := w.sl ga j8
    obtain ⟨S, f1, f2, f3, f4, f5, f6, f7, -⟩ := H.snd q1
    by_cases z : 0 ≤ k ∧ k < c (4 + a).toNat
    · refine ⟨0, sL c a k, ?_, fun h1 p => ?_⟩
      · show XR (fX11_letter h X a k) h X _ _
        unfold fX11_letter
        exact XR.of (by (have z_1 := xSn1 H q1.1 q1.2; (repeat' (first | (with_reducible refine ltg ?_) | ((with_reducible refine iteT ?_ ?_); omega) | ((with_reducible refine iteF ?_ ?_); omega) | ((with_reducible refine gdg ?_ ?_); first | with_reducible exact H.k | with_reducible exact z_1 | with_reducible exact f1 | with_reducible exact f2 | with_reducible exact f3 | with_reducible exact f4 | with_reducible exact f5 | with_reducible exact f6 | omega) | ((with_reducible apply nng); first | with_reducible exact H.k | with_reducible exact z_1 | with_reducible exact f1 | with_reducible exact f2 | with_reducible exact f3 | with_reducible exact f4 | with_reducible exact f5 | with_reducible exact f6) | ((with_reducible apply bdg); first | with_reducible exact H.k | with_reducible exact z_1 | with_reducible exact f1 | with_reducible exact f2 | with_reducible exact f3 | with_reducible exact f4 | with_reducible exact f5 | with_reducible exact f6) | ((with_reducible apply bd2g); first | with_reducible exact H.k | with_reducible exact z_1 | with_reducible exact f1 | with_reducible exact f2 | with_reducible exact f3 | with_reducible exact f4 | with_reducible exact f5 | with_reducible exact f6)))); exact bd2_id _) (xr_at1 H.k (QR.rf h) f7.v z)
      · obtain ⟨ms, hc, -⟩ := G.q p
        simp only [fX12_letter, lt_d, hK_pI, gR_pI, gA_pI, gB_pI, gC_pI, gJ_pI, ms.r788, nn_s, ms.k0, ms.k5, gd_T, eq_self, hc, bd2_id, Int.reduceToNat, w32_id (x := 4 + a) (by omega) (by omega), w32_id (x := c (4 + a).toNat - 1) (by omega) (by omega)]
        exact MR.of (by (have z_0 := rSn1 w q1.1 q1.2; (repeat' (first | (with_reducible refine ltg ?_) | ((with_reducible refine iteT ?_ ?_); omega) | ((with_reducible refine iteF ?_ ?_); omega) | ((with_reducible refine gdg ?_ ?_); first | with_reducible exact z_0 | exact rIn1 z.1 (by omega) | exact rSnd ga j8 z.1 z.2 (by omega) | omega) | ((with_reducible apply nng); first | with_reducible exact z_0 | exact rIn1 z.1 (by omega) | exact rSnd ga j8 z.1 z.2 (by omega)) | ((with_reducible apply bdg); first | with_reducible exact z_0 | exact rIn1 z.1 (by omega) | exact rSnd ga j8 z.1 z.2 (by omega)) | ((with_reducible apply bd2g); first | with_reducible exact z_0 | exact rIn1 z.1 (by omega) | exact rSnd ga j8 z.1 z.2 (by omega))))); rfl) mr_m0
    · refine ⟨8, -1, ?_, fun h1 p => ?_⟩
      · show XR (fX11_letter h X a k) h X _ _
        unfold fX11_letter
        exact XR.of (by (have z_1 := xSn1 H q1.1 q1.2; (repeat' (first | (with_reducible refine ltg ?_) | ((with_reducible refine iteT ?_ ?_); omega) | ((with_reducible refine iteF ?_ ?_); omega) | ((with_reducible refine gdg ?_ ?_); first | with_reducible exact H.k | with_reducible exact z_1 | with_reducible exact f1 | with_reducible exact f2 | with_reducible exact f3 | with_reducible exact f4 | with_reducible exact f5 | with_reducible exact f6 | omega) | ((with_reducible apply nng); first | with_reducible exact H.k | with_reducible exact z_1 | with_reducible exact f1 | with_reducible exact f2 | with_reducible exact f3 | with_reducible exact f4 | with_reducible exact f5 | with_reducible exact f6) | ((with_reducible apply bdg); first | with_reducible exact H.k | with_reducible exact z_1 | with_reducible exact f1 | with_reducible exact f2 | with_reducible exact f3 | with_reducible exact f4 | with_reducible exact f5 | with_reducible exact f6) | ((with_reducible apply bd2g); first | with_reducible exact H.k | with_reducible exact z_1 | with_reducible exact f1 | with_reducible exact f2 | with_reducible exact f3 | with_reducible exact f4 | with_reducible exact f5 | with_reducible exact f6)))); exact bd2_id _) (xr_at0 H.k (QR.rf h) f7.v z)
      · obtain ⟨ms, hc, -⟩ := G.q p
        simp only [fX12_letter, lt_d, hK_pI, gR_pI, gA_pI, gB_pI, gC_pI, gJ_pI, ms.r788, nn_s, ms.k0, ms.k5, gd_T, eq_self, hc, bd2_id, Int.reduceToNat, w32_id (x := 4 + a) (by omega) (by omega), w32_id (x := c (4 + a).toNat - 1) (by omega) (by omega)]
        exact MR.of (by (have z_0 := rSn1 w q1.1 q1.2; (repeat' (first | (with_reducible refine ltg ?_) | ((with_reducible refine iteT ?_ ?_); omega) | ((with_reducible refine iteF ?_ ?_); omega) | ((with_reducible refine gdg ?_ ?_); first | with_reducible exact z_0 | exact rIn0 (by omega) | omega) | ((with_reducible apply nng); first | with_reducible exact z_0 | exact rIn0 (by omega)) | ((with_reducible apply bdg); first | with_reducible exact z_0 | exact rIn0 (by omega)) | ((with_reducible apply bd2g); first | with_reducible exact z_0 | exact rIn0 (by omega))))); rfl) (mr_m0r ms (rg_lit rfl))
  · refine ⟨2, -1, ?_, fun h1 p => ?_⟩
    · show XR (fX11_letter h X a k) h X _ _
      unfold fX11_letter
      exact XR.of (by (have z_1 := xSn0 H (noS q1); (repeat' (first | (with_reducible refine ltg ?_) | ((with_reducible refine iteT ?_ ?_); omega) | ((with_reducible refine iteF ?_ ?_); omega) | ((with_reducible refine gdg ?_ ?_); first | with_reducible exact H.k | with_reducible exact z_1 | omega) | ((with_reducible apply nng); first | with_reducible exact H.k | with_reducible exact z_1) | ((with_reducible apply bdg); first | with_reducible exact H.k | with_reducible exact z_1) | ((with_reducible apply bd2g); first | with_reducible exact H.k | with_reducible exact z_1)))); exact bd2_id _) (xr_re H.k (QR.rf h) (rg_lit rfl))
    · obtain ⟨ms, hc, -⟩ := G.q p
      simp only [fX12_letter, lt_d, hK_pI, gR_pI, gA_pI, gB_pI, gC_pI, gJ_pI, ms.r788, nn_s, ms.k0, ms.k5, gd_T, eq_self, hc, bd2_id, Int.reduceToNat]
      exact MR.of (by (have z_0 := rSn0 w (noS q1); (repeat' (first | (with_reducible refine ltg ?_) | ((with_reducible refine iteT ?_ ?_); omega) | ((with_reducible refine iteF ?_ ?_); omega) | ((with_reducible refine gdg ?_ ?_); first | with_reducible exact z_0 | omega) | ((with_reducible apply nng); first | with_reducible exact z_0) | ((with_reducible apply bdg); first | with_reducible exact z_0) | ((with_reducible apply bd2g); first | with_reducible exact z_0)))); rfl) (mr_m0r ms (rg_lit rfl))

set_option maxHeartbeats 200000 in
theorem ok_mixes {h : Hp} {X : Nat} {c : Nat → Int} {a b : Int} (H : CX h X c) (G : CM h X c) : OK2 (fun h => fX11_mixes h X a b) (fun h => fX12_mixes h (X + 121) a b) h X := by
  have w := H.wf
  by_cases q1 : 0 ≤ a ∧ a ≤ 26
  · by_cases q2 : 0 ≤ b ∧ b ≤ 26
    · obtain ⟨R, f1, f2, f3⟩ := H.law
      refine ⟨0, mixS c a b, ?_, fun h1 p => ?_⟩
      · show XR (fX11_mixes h X a b) h X _ _
        unfold fX11_mixes
        exact XR.of (by (have z_1 := xLr1 q1.1 q1.2; have z_2 := xLr1 q2.1 q2.2; (repeat' (first | (with_reducible refine ltg ?_) | ((with_reducible refine iteT ?_ ?_); omega) | ((with_reducible refine iteF ?_ ?_); omega) | ((with_reducible refine gdg ?_ ?_); first | with_reducible exact H.k | with_reducible exact z_1 | with_reducible exact z_2 | with_reducible exact f1 | with_reducible exact f2 | exact xMix f3 w | omega) | ((with_reducible apply nng); first | with_reducible exact H.k | with_reducible exact z_1 | with_reducible exact z_2 | with_reducible exact f1 | with_reducible exact f2 | exact xMix f3 w) | ((with_reducible apply bdg); first | with_reducible exact H.k | with_reducible exact z_1 | with_reducible exact z_2 | with_reducible exact f1 | with_reducible exact f2 | exact xMix f3 w) | ((with_reducible apply bd2g); first | with_reducible exact H.k | with_reducible exact z_1 | with_reducible exact z_2 | with_reducible exact f1 | with_reducible exact f2 | exact xMix f3 w)))); exact bd2_id _) (xr_an H.k (QR.rf h))
      · obtain ⟨ms, hc, -⟩ := G.q p
        simp only [fX12_mixes, lt_d, hK_pI, gR_pI, gA_pI, gB_pI, gC_pI, gJ_pI, ms.r788, nn_s, ms.k0, ms.k5, gd_T, eq_self, hc, bd2_id, Int.reduceToNat]
        exact MR.of (by (repeat' (first | (with_reducible refine ltg ?_) | ((with_reducible refine iteT ?_ ?_); omega) | ((with_reducible refine iteF ?_ ?_); omega) | ((with_reducible refine gdg ?_ ?_); first | exact rIn1 q1.1 q1.2 | exact rIn1 q2.1 q2.2 | exact rMix w | omega) | ((with_reducible apply nng); first | exact rIn1 q1.1 q1.2 | exact rIn1 q2.1 q2.2 | exact rMix w) | ((with_reducible apply bdg); first | exact rIn1 q1.1 q1.2 | exact rIn1 q2.1 q2.2 | exact rMix w) | ((with_reducible apply bd2g); first | exact rIn1 q1.1 q1.2 | exact rIn1 q2.1 q2.2 | exact rMix w))); rfl) mr_m0
    · refine ⟨5, -1, ?_, fun h1 p => ?_⟩
      · show XR (fX11_mixes h X a b) h X _ _
        unfold fX11_mixes
        exact XR.of (by (have z_1 := xLr1 q1.1 q1.2; (repeat' (first | (with_reducible refine ltg ?_) | ((with_reducible refine iteT ?_ ?_); omega) | ((with_reducible refine iteF ?_ ?_); omega) | ((with_reducible refine gdg ?_ ?_); first | with_reducible exact H.k | with_reducible exact z_1 | exact xLr0 (by omega) | omega) | ((with_reducible apply nng); first | with_reducible exact H.k | with_reducible exact z_1 | exact xLr0 (by omega)) | ((with_reducible apply bdg); first | with_reducible exact H.k | with_reducible exact z_1 | exact xLr0 (by omega)) | ((with_reducible apply bd2g); first | with_reducible exact H.k | with_reducible exact z_1 | exact xLr0 (by omega))))); exact bd2_id _) (xr_re H.k (QR.rf h) (rg_lit rfl))
      · obtain ⟨ms, hc, -⟩ := G.q p
        simp only [fX12_mixes, lt_d, hK_pI, gR_pI, gA_pI, gB_pI, gC_pI, gJ_pI, ms.r788, nn_s, ms.k0, ms.k5, gd_T, eq_self, hc, bd2_id, Int.reduceToNat]
        exact MR.of (by (repeat' (first | (with_reducible refine ltg ?_) | ((with_reducible refine iteT ?_ ?_); omega) | ((with_reducible refine iteF ?_ ?_); omega) | ((with_reducible refine gdg ?_ ?_); first | exact rIn1 q1.1 q1.2 | exact rIn0 (by omega) | omega) | ((with_reducible apply nng); first | exact rIn1 q1.1 q1.2 | exact rIn0 (by omega)) | ((with_reducible apply bdg); first | exact rIn1 q1.1 q1.2 | exact rIn0 (by omega)) | ((with_reducible apply bd2g); first | exact rIn1 q1.1 q1.2 | exact rIn0 (by omega)))); rfl) (mr_m0r ms (rg_lit rfl))
  · refine ⟨5, -1, ?_, fun h1 p => ?_⟩
    · show XR (fX11_mixes h X a b) h X _ _
      unfold fX11_mixes
      exact XR.of (by (repeat' (first | (with_reducible refine ltg ?_) | ((with_reducible refine iteT ?_ ?_); omega) | ((with_reducible refine iteF ?_ ?_); omega) | ((with_reducible refine gdg ?_ ?_); first | with_reducible exact H.k | exact xLr0 (by omega) | omega) | ((with_reducible apply nng); first | with_reducible exact H.k | exact xLr0 (by omega)) | ((with_reducible apply bdg); first | with_reducible exact H.k | exact xLr0 (by omega)) | ((with_reducible apply bd2g); first | with_reducible exact H.k | exact xLr0 (by omega)))); exact bd2_id _) (xr_re H.k (QR.rf h) (rg_lit rfl))
    · obtain ⟨ms, hc, -⟩ := G.q p
      simp only [fX12_mixes, lt_d, hK_pI, gR_pI, gA_pI, gB_pI, gC_pI, gJ_pI, ms.r788, nn_s, ms.k0, ms.k5, gd_T, eq_self, hc, bd2_id, Int.reduceToNat]
      exact MR.of (by (repeat' (first | (with_reducible refine ltg ?_) | ((with_reducible refine iteT ?_ ?_); omega) | ((with_reducible refine iteF ?_ ?_); omega) | ((with_reducible refine gdg ?_ ?_); first | exact rIn0 (by omega) | omega) | ((with_reducible apply nng); first | exact rIn0 (by omega)) | ((with_reducible apply bdg); first | exact rIn0 (by omega)) | ((with_reducible apply bd2g); first | exact rIn0 (by omega)))); rfl) (mr_m0r ms (rg_lit rfl))

set_option maxHeartbeats 200000 in
theorem ok_others {h : Hp} {X : Nat} {c : Nat → Int} {a b : Int} (H : CX h X c) (G : CM h X c) : OK2 (fun h => fX11_others h X a b) (fun h => fX12_others h (X + 121) a b) h X := by
  have w := H.wf
  by_cases q1 : 0 ≤ a ∧ a ≤ 26
  · by_cases q2 : 0 ≤ b ∧ b ≤ 26
    · obtain ⟨R, f1, f2, f3⟩ := H.law
      refine ⟨0, ((othS c a b : Nat) : Int), ?_, fun h1 p => ?_⟩
      · show XR (fX11_others h X a b) h X _ _
        unfold fX11_others
        exact XR.of (by (have z_1 := xLr1 q1.1 q1.2; have z_2 := xLr1 q2.1 q2.2; (repeat' (first | (with_reducible refine ltg ?_) | ((with_reducible refine iteT ?_ ?_); omega) | ((with_reducible refine iteF ?_ ?_); omega) | ((with_reducible refine gdg ?_ ?_); first | with_reducible exact H.k | with_reducible exact z_1 | with_reducible exact z_2 | with_reducible exact f1 | with_reducible exact f2 | exact xPar f3 w | omega) | ((with_reducible apply nng); first | with_reducible exact H.k | with_reducible exact z_1 | with_reducible exact z_2 | with_reducible exact f1 | with_reducible exact f2 | exact xPar f3 w) | ((with_reducible apply bdg); first | with_reducible exact H.k | with_reducible exact z_1 | with_reducible exact z_2 | with_reducible exact f1 | with_reducible exact f2 | exact xPar f3 w) | ((with_reducible apply bd2g); first | with_reducible exact H.k | with_reducible exact z_1 | with_reducible exact z_2 | with_reducible exact f1 | with_reducible exact f2 | exact xPar f3 w)))); exact bd2_id _) (xr_an H.k (QR.rf h))
      · obtain ⟨ms, hc, -⟩ := G.q p
        simp only [fX12_others, lt_d, hK_pI, gR_pI, gA_pI, gB_pI, gC_pI, gJ_pI, ms.r788, nn_s, ms.k0, ms.k5, gd_T, eq_self, hc, bd2_id, Int.reduceToNat]
        exact MR.of (by (repeat' (first | (with_reducible refine ltg ?_) | ((with_reducible refine iteT ?_ ?_); omega) | ((with_reducible refine iteF ?_ ?_); omega) | ((with_reducible refine gdg ?_ ?_); first | exact rIn1 q1.1 q1.2 | exact rIn1 q2.1 q2.2 | exact rOth w | omega) | ((with_reducible apply nng); first | exact rIn1 q1.1 q1.2 | exact rIn1 q2.1 q2.2 | exact rOth w) | ((with_reducible apply bdg); first | exact rIn1 q1.1 q1.2 | exact rIn1 q2.1 q2.2 | exact rOth w) | ((with_reducible apply bd2g); first | exact rIn1 q1.1 q1.2 | exact rIn1 q2.1 q2.2 | exact rOth w))); rfl) mr_m0
    · refine ⟨5, -1, ?_, fun h1 p => ?_⟩
      · show XR (fX11_others h X a b) h X _ _
        unfold fX11_others
        exact XR.of (by (have z_1 := xLr1 q1.1 q1.2; (repeat' (first | (with_reducible refine ltg ?_) | ((with_reducible refine iteT ?_ ?_); omega) | ((with_reducible refine iteF ?_ ?_); omega) | ((with_reducible refine gdg ?_ ?_); first | with_reducible exact H.k | with_reducible exact z_1 | exact xLr0 (by omega) | omega) | ((with_reducible apply nng); first | with_reducible exact H.k | with_reducible exact z_1 | exact xLr0 (by omega)) | ((with_reducible apply bdg); first | with_reducible exact H.k | with_reducible exact z_1 | exact xLr0 (by omega)) | ((with_reducible apply bd2g); first | with_reducible exact H.k | with_reducible exact z_1 | exact xLr0 (by omega))))); exact bd2_id _) (xr_re H.k (QR.rf h) (rg_lit rfl))
      · obtain ⟨ms, hc, -⟩ := G.q p
        simp only [fX12_others, lt_d, hK_pI, gR_pI, gA_pI, gB_pI, gC_pI, gJ_pI, ms.r788, nn_s, ms.k0, ms.k5, gd_T, eq_self, hc, bd2_id, Int.reduceToNat]
        exact MR.of (by (repeat' (first | (with_reducible refine ltg ?_) | ((with_reducible refine iteT ?_ ?_); omega) | ((with_reducible refine iteF ?_ ?_); omega) | ((with_reducible refine gdg ?_ ?_); first | exact rIn1 q1.1 q1.2 | exact rIn0 (by omega) | omega) | ((with_reducible apply nng); first | exact rIn1 q1.1 q1.2 | exact rIn0 (by omega)) | ((with_reducible apply bdg); first | exact rIn1 q1.1 q1.2 | exact rIn0 (by omega)) | ((with_reducible apply bd2g); first | exact rIn1 q1.1 q1.2 | exact rIn0 (by omega)))); rfl) (mr_m0r ms (rg_lit rfl))
  · refine ⟨5, -1, ?_, fun h1 p => ?_⟩
    · show XR (fX11_others h X a b) h X _ _
      unfold fX11_others
      exact XR.of (by (repeat' (first | (with_reducible refine ltg ?_) | ((with_reducible refine iteT ?_ ?_); omega) | ((with_reducible refine iteF ?_ ?_); omega) | ((with_reducible refine gdg ?_ ?_); first | with_reducible exact H.k | exact xLr0 (by omega) | omega) | ((with_reducible apply nng); first | with_reducible exact H.k | exact xLr0 (by omega)) | ((with_reducible apply bdg); first | with_reducible exact H.k | exact xLr0 (by omega)) | ((with_reducible apply bd2g); first | with_reducible exact H.k | exact xLr0 (by omega)))); exact bd2_id _) (xr_re H.k (QR.rf h) (rg_lit rfl))
    · obtain ⟨ms, hc, -⟩ := G.q p
      simp only [fX12_others, lt_d, hK_pI, gR_pI, gA_pI, gB_pI, gC_pI, gJ_pI, ms.r788, nn_s, ms.k0, ms.k5, gd_T, eq_self, hc, bd2_id, Int.reduceToNat]
      exact MR.of (by (repeat' (first | (with_reducible refine ltg ?_) | ((with_reducible refine iteT ?_ ?_); omega) | ((with_reducible refine iteF ?_ ?_); omega) | ((with_reducible refine gdg ?_ ?_); first | exact rIn0 (by omega) | omega) | ((with_reducible apply nng); first | exact rIn0 (by omega)) | ((with_reducible apply bdg); first | exact rIn0 (by omega)) | ((with_reducible apply bd2g); first | exact rIn0 (by omega)))); rfl) (mr_m0r ms (rg_lit rfl))
