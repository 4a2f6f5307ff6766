/-! QUERIES, seventh lot: many loudest (written by wip/whole/g50.py) -/
set_option maxHeartbeats 200000 in
theorem bc_bs {n : Nat} {p : Nat → Bool} (hn : n ≤ 31) : bcN 31 (bs n p) = sm n (fun k => if p k then 1 else 0) := by
  rw [bcN_lt (bs_lt n p) hn]
  unfold bcN
  refine sm_congr (fun k hk => ?_)
  show (if (bs n p).testBit k = true then (1 : Int) else 0) = _
  rw [bs_tb, show decide (k < n) = true from decide_eq_true hk, Bool.true_and]
set_option maxHeartbeats 200000 in
theorem sm_not {n : Nat} {p q : Nat → Int} (h : ∀ k, k < n → p k + q k = 1) : (n : Int) - sm n p = sm n q := by
  induction n with
  | zero => rfl
  | succ n ih =>
    have h1 := ih (fun k hk => h k (by omega))
    have h2 := h n (by omega)
    show ((n + 1 : Nat) : Int) - (sm n p + p n) = sm n q + q n
    omega
/-- which jars are filled -/
def flB (c : Nat → Int) (j : Nat) : Bool := !(c (188 + (j : Int)).toNat == 0)
set_option maxHeartbeats 200000 in
theorem xEmp {h : Hp} {a : Nat} {c : Nat → Int} {j : Int} (k : (hK h a).1 = 0) (v : JV h a c j) : fX0_isEmpty h a = some (if c (188 + j).toNat = 0 then 1 else 0) := by
  unfold fX0_isEmpty
  rw [v.2.2.2.2.2.2.1]
  exact gdg k rfl
set_option maxHeartbeats 200000 in
theorem xFil {h : Hp} {S : Nat} {c : Nat → Int} (v : SV h S c) (w : WF c) : fX7_filledJars h S = some ((bs (c 2).toNat (flB c) : Nat) : Int) := by
  have hj := w.nj
  have kS : (hK h S).1 = 7 := by rw [v.1]
  have v7 : gI h 451 S = c 2 := v.2.2.2.2.2.2.1
  unfold fX7_filledJars
  have := fg (S := Int) (fun fu v t => fX7_filledJars_b4 h S fu t v) some (c 2).toNat (fun i => ((bs i (flB c) : Nat) : Int)) (by omega) ?_ ?_ 0 (by omega)
  · exact this
  · intro fu i hi
    have e5 : WE ((i : Int) + 1) := we (by omega) (by omega)
    obtain ⟨f1, f2, f3, f4, f5, f6, f7, f8⟩ := v.jar w (j := (i : Int)) (by omega) (by omega)
    show fX7_filledJars_b4 h S (fu + 1) _ (i : Int) = fX7_filledJars_b4 h S fu _ _
    rw [fX7_filledJars_b4.eq_2, v7]
    refine gdg kS (iteT (by omega) (nng f2 (gdg f3 (gdg f4 (nng f5 (gdg f6 (bdg (xEmp f6 f7) ?_)))))))
    by_cases q : c (188 + (i : Int)).toNat = 0
    · rw [if_pos q]
      refine iteF (by omega) ?_
      rw [fX7_filledJars_b30, lt_d, e5.e, bs_no (p := flB c) (by simp [flB, q])]
    · rw [if_neg q]
      refine iteT rfl ?_
      rw [lt_d, fX7_filledJars_b30, lt_d, e5.e, bor_set (p := flB c) (by omega) (by simp [flB, q])]
  · intro fu
    show fX7_filledJars_b4 h S (fu + 1) _ ((c 2).toNat : Int) = _
    rw [fX7_filledJars_b4.eq_2, v7]
    exact gdg kS (iteF (by omega) rfl)
def empS (c : Nat → Int) : Int := sm (c 2).toNat (fun j => if c (188 + (j : Int)).toNat = 0 then 1 else 0)
set_option maxHeartbeats 200000 in
theorem emp_eq {c : Nat → Int} (w : WF c) : c 2 - bcN 31 (bs (c 2).toNat (flB c)) = empS c := by
  have hj := w.nj
  rw [bc_bs (by omega)]
  have := sm_not (n := (c 2).toNat) (p := fun k => if flB c k then 1 else 0) (q := fun j => if c (188 + (j : Int)).toNat = 0 then 1 else 0) (fun k hk => by
    show (if flB c k = true then (1 : Int) else 0) + (if c (188 + (k : Int)).toNat = 0 then 1 else 0) = 1
    by_cases q : c (188 + (k : Int)).toNat = 0 <;> simp [flB, q])
  unfold empS
  rw [← this]
  omega
set_option maxHeartbeats 200000 in
theorem rEmp {c : Nat → Int} (w : WF c) : fX12_empties c = some (empS c) := by
  have hj := w.nj
  unfold fX12_empties empS
  have := fg (S := Int) (fun fu v t => fX12_empties_b4 c fu t v) some (c 2).toNat (fun i => sm i (fun j => if c (188 + (j : Int)).toNat = 0 then 1 else 0)) (by omega) ?_ ?_ 0 (by omega)
  · exact this
  · intro fu i hi
    have e5 : WE ((i : Int) + 1) := we (by omega) (by omega)
    have bd := sm_bd (n := i + 1) (f := fun j => if c (188 + (j : Int)).toNat = 0 then 1 else 0) (a := 0) (b := 1) (fun k _ => by
      show 0 ≤ (if c (188 + (k : Int)).toNat = 0 then (1 : Int) else 0) ∧ (if c (188 + (k : Int)).toNat = 0 then (1 : Int) else 0) ≤ 1
      split <;> omega)
    have es : sm (i + 1) (fun j => if c (188 + (j : Int)).toNat = 0 then 1 else 0) = sm i (fun j => if c (188 + (j : Int)).toNat = 0 then 1 else 0) + (if c (188 + (i : Int)).toNat = 0 then 1 else 0) := rfl
    show fX12_empties_b4 c (fu + 1) _ (i : Int) = fX12_empties_b4 c fu (sm (i + 1) (fun j => if c (188 + (j : Int)).toNat = 0 then 1 else 0)) _
    rw [fX12_empties_b4.eq_2, w32_id (x := 188 + (i : Int)) (by omega) (by omega), ← es]
    refine gdg (by omega) (iteT (show (i : Int) < c 2 by omega) (gdg (by omega) ?_))
    rw [lt_d, lt_d, e5.e, w32_id (by omega) (by omega)]
  · intro fu
    show fX12_empties_b4 c (fu + 1) _ ((c 2).toNat : Int) = _
    rw [fX12_empties_b4.eq_2]
    exact gdg (by omega) (iteF (show ¬ ((c 2).toNat : Int) < c 2 by omega) rfl)
set_option maxHeartbeats 200000 in
theorem ok_many {h : Hp} {X : Nat} {c : Nat → Int} {u : Int} (H : CX h X c) (G : CM h X c) : OK2 (fun h => fX11_many h X u) (fun h => fX12_many h (X + 121) u) h X := by
  have w := H.wf
  have hj := w.nj
  obtain ⟨S, f1, f2, f3, f4, f5, -⟩ := H.shop
  obtain ⟨R, r1, r2, r3⟩ := H.law
  have r4 : gI h 67 R = c 3 := r3.2.2.2.2.2.2.2.1
  have r5 : gI h 719 X = c 0 := H.2.2.1
  by_cases u0 : u = 0
  · refine ⟨0, c 1, ?_, fun h1 p => ?_⟩
    · show XR (fX11_many h X u) h X _ _
      unfold fX11_many
      rw [← f5]
      exact XR.of (by (repeat' (first | (with_reducible refine ltg ?_) | ((with_reducible refine iteT ?_ ?_); omega) | ((with_reducible refine iteF ?_ ?_); omega) | ((with_reducible refine gdg ?_ ?_); first | with_reducible exact H.k | with_reducible exact f1 | with_reducible exact f2 | omega) | ((with_reducible apply nng); first | with_reducible exact H.k | with_reducible exact f1 | with_reducible exact f2) | ((with_reducible apply bdg); first | with_reducible exact H.k | with_reducible exact f1 | with_reducible exact f2) | ((with_reducible apply bd2g); first | with_reducible exact H.k | with_reducible exact f1 | with_reducible exact f2))); exact bd2_id _) (xr_an H.k (QR.rf h))
    · obtain ⟨ms, hc, -⟩ := G.q p
      simp only [fX12_many, lt_d, hK_pI, gR_pI, gA_pI, gB_pI, gC_pI, gJ_pI, ms.r788, nn_s, ms.k0, ms.k5, gd_T, eq_self, hc, bd2_id, Int.reduceToNat]
      exact MR.of (by (repeat' (first | (with_reducible refine ltg ?_) | ((with_reducible refine iteT ?_ ?_); omega) | ((with_reducible refine iteF ?_ ?_); omega) | ((with_reducible refine gdg ?_ ?_); first | omega))); rfl) mr_m0
  by_cases u1 : u = 1
  · refine ⟨0, c 2, ?_, fun h1 p => ?_⟩
    · show XR (fX11_many h X u) h X _ _
      unfold fX11_many
      rw [← f4]
      exact XR.of (by (repeat' (first | (with_reducible refine ltg ?_) | ((with_reducible refine iteT ?_ ?_); omega) | ((with_reducible refine iteF ?_ ?_); omega) | ((with_reducible refine gdg ?_ ?_); first | with_reducible exact H.k | with_reducible exact f1 | with_reducible exact f2 | omega) | ((with_reducible apply nng); first | with_reducible exact H.k | with_reducible exact f1 | with_reducible exact f2) | ((with_reducible apply bdg); first | with_reducible exact H.k | with_reducible exact f1 | with_reducible exact f2) | ((with_reducible apply bd2g); first | with_reducible exact H.k | with_reducible exact f1 | with_reducible exact f2))); exact bd2_id _) (xr_an H.k (QR.rf h))
    · obtain ⟨ms, hc, -⟩ := G.q p
      simp only [fX12_many, lt_d, hK_pI, gR_pI, gA_pI, gB_pI, gC_pI, gJ_pI, ms.r788, nn_s, ms.k0, ms.k5, gd_T, eq_self, hc, bd2_id, Int.reduceToNat]
      exact MR.of (by (repeat' (first | (with_reducible refine ltg ?_) | ((with_reducible refine iteT ?_ ?_); omega) | ((with_reducible refine iteF ?_ ?_); omega) | ((with_reducible refine gdg ?_ ?_); first | omega))); rfl) mr_m0
  by_cases u2 : u = 2
  · refine ⟨0, c 3, ?_, fun h1 p => ?_⟩
    · show XR (fX11_many h X u) h X _ _
      unfold fX11_many
      rw [← r4]
      exact XR.of (by (repeat' (first | (with_reducible refine ltg ?_) | ((with_reducible refine iteT ?_ ?_); omega) | ((with_reducible refine iteF ?_ ?_); omega) | ((with_reducible refine gdg ?_ ?_); first | with_reducible exact H.k | with_reducible exact r1 | with_reducible exact r2 | omega) | ((with_reducible apply nng); first | with_reducible exact H.k | with_reducible exact r1 | with_reducible exact r2) | ((with_reducible apply bdg); first | with_reducible exact H.k | with_reducible exact r1 | with_reducible exact r2) | ((with_reducible apply bd2g); first | with_reducible exact H.k | with_reducible exact r1 | with_reducible exact r2))); exact bd2_id _) (xr_an H.k (QR.rf h))
    · obtain ⟨ms, hc, -⟩ := G.q p
      simp only [fX12_many, lt_d, hK_pI, gR_pI, gA_pI, gB_pI, gC_pI, gJ_pI, ms.r788, nn_s, ms.k0, ms.k5, gd_T, eq_self, hc, bd2_id, Int.reduceToNat]
      exact MR.of (by (repeat' (first | (with_reducible refine ltg ?_) | ((with_reducible refine iteT ?_ ?_); omega) | ((with_reducible refine iteF ?_ ?_); omega) | ((with_reducible refine gdg ?_ ?_); first | omega))); rfl) mr_m0
  by_cases u3 : u = 3
  · refine ⟨0, c 0, ?_, fun h1 p => ?_⟩
    · show XR (fX11_many h X u) h X _ _
      unfold fX11_many
      rw [← r5]
      exact XR.of (by (repeat' (first | (with_reducible refine ltg ?_) | ((with_reducible refine iteT ?_ ?_); omega) | ((with_reducible refine iteF ?_ ?_); omega) | ((with_reducible refine gdg ?_ ?_); first | with_reducible exact H.k | omega) | ((with_reducible apply nng); first | with_reducible exact H.k) | ((with_reducible apply bdg); first | with_reducible exact H.k) | ((with_reducible apply bd2g); first | with_reducible exact H.k))); exact bd2_id _) (xr_an H.k (QR.rf h))
    · obtain ⟨ms, hc, -⟩ := G.q p
      simp only [fX12_many, lt_d, hK_pI, gR_pI, gA_pI, gB_pI, gC_pI, gJ_pI, ms.r788, nn_s, ms.k0, ms.k5, gd_T, eq_self, hc, bd2_id, Int.reduceToNat]
      exact MR.of (by (repeat' (first | (with_reducible refine ltg ?_) | ((with_reducible refine iteT ?_ ?_); omega) | ((with_reducible refine iteF ?_ ?_); omega) | ((with_reducible refine gdg ?_ ?_); first | omega))); rfl) mr_m0
  by_cases u4 : u = 4
  · have b := bcN_bd 31 (bs (c 2).toNat (flB c))
    have lt := bs_lt (c 2).toNat (flB c)
    have pw := pw8 w
    have xb := xBits (s := bs (c 2).toNat (flB c)) (by omega)
    have xf := xFil f3 w
    have ee := emp_eq w
    refine ⟨0, empS c, ?_, fun h1 p => ?_⟩
    · show XR (fX11_many h X u) h X _ _
      have e2 : w32 (gI h 451 S - bcN 31 (bs (c 2).toNat (flB c))) = empS c := by rw [f4, w32_id (by omega) (by omega), ee]
      unfold fX11_many
      have xa : XR (fX11_answer h X (w32 (gI h 451 S - bcN 31 (bs (c 2).toNat (flB c))))) h X 0 (empS c) := by rw [e2]; exact xr_an H.k (QR.rf h)
      exact XR.of (by (repeat' (first | (with_reducible refine ltg ?_) | ((with_reducible refine iteT ?_ ?_); omega) | ((with_reducible refine iteF ?_ ?_); omega) | ((with_reducible refine gdg ?_ ?_); first | with_reducible exact H.k | with_reducible exact f1 | with_reducible exact f2 | with_reducible exact xf | with_reducible exact xb | omega) | ((with_reducible apply nng); first | with_reducible exact H.k | with_reducible exact f1 | with_reducible exact f2 | with_reducible exact xf | with_reducible exact xb) | ((with_reducible apply bdg); first | with_reducible exact H.k | with_reducible exact f1 | with_reducible exact f2 | with_reducible exact xf | with_reducible exact xb) | ((with_reducible apply bd2g); first | with_reducible exact H.k | with_reducible exact f1 | with_reducible exact f2 | with_reducible exact xf | with_reducible exact xb))); exact bd2_id _) xa
    · obtain ⟨ms, hc, -⟩ := G.q p
      have re := rEmp w
      simp only [fX12_many, lt_d, hK_pI, gR_pI, gA_pI, gB_pI, gC_pI, gJ_pI, ms.r788, nn_s, ms.k0, ms.k5, gd_T, eq_self, hc, bd2_id, Int.reduceToNat]
      exact MR.of (by (repeat' (first | (with_reducible refine ltg ?_) | ((with_reducible refine iteT ?_ ?_); omega) | ((with_reducible refine iteF ?_ ?_); omega) | ((with_reducible refine gdg ?_ ?_); first | with_reducible exact re | omega) | ((with_reducible apply nng); first | with_reducible exact re) | ((with_reducible apply bdg); first | with_reducible exact re) | ((with_reducible apply bd2g); first | with_reducible exact re))); rfl) mr_m0
  · refine ⟨5, -1, ?_, fun h1 p => ?_⟩
    · show XR (fX11_many h X u) h X _ _
      unfold fX11_many
      exact XR.of (by (repeat' (first | (with_reducible refine ltg ?_) | ((with_reducible refine iteT ?_ ?_); omega) | ((with_reducible refine iteF ?_ ?_); omega) | ((with_reducible refine gdg ?_ ?_); first | with_reducible exact H.k | omega) | ((with_reducible apply nng); first | with_reducible exact H.k) | ((with_reducible apply bdg); first | with_reducible exact H.k) | ((with_reducible apply bd2g); first | with_reducible exact H.k))); exact bd2_id _) (xr_re H.k (QR.rf h) (rg_lit rfl))
    · obtain ⟨ms, hc, -⟩ := G.q p
      simp only [fX12_many, lt_d, hK_pI, gR_pI, gA_pI, gB_pI, gC_pI, gJ_pI, ms.r788, nn_s, ms.k0, ms.k5, gd_T, eq_self, hc, bd2_id, Int.reduceToNat]
      exact MR.of (by (repeat' (first | (with_reducible refine ltg ?_) | ((with_reducible refine iteT ?_ ?_); omega) | ((with_reducible refine iteF ?_ ?_); omega) | ((with_reducible refine gdg ?_ ?_); first | omega))); rfl) (mr_m0r ms (rg_lit rfl))
/-! LOUDEST -/
def lonS (c : Nat → Int) (d : Int) : Int := sm (c 2).toNat (fun j => leftS c (j : Int) d)
set_option maxHeartbeats 200000 in
theorem lon_bd {c : Nat → Int} {d : Int} (w : WF c) (n : Nat) (hn : (n : Int) ≤ c 2) : 0 ≤ sm n (fun j => leftS c (j : Int) d) ∧ sm n (fun j => leftS c (j : Int) d) ≤ 96 := by
  have hj := w.nj
  have := sm_bd (n := n) (f := fun j => leftS c (j : Int) d) (a := 0) (b := 12) (fun k hk => by
    have wj := w.wj (j := (k : Int)) (by omega) (by omega)
    have h1 := leftS_bd (d := d) wj
    have h2 := wj.1
    have h3 := wj.2.2.2.2.2.2.1
    show 0 ≤ leftS c (k : Int) d ∧ leftS c (k : Int) d ≤ 12
    omega)
  omega
set_option maxHeartbeats 200000 in
theorem xLon {h : Hp} {S : Nat} {c : Nat → Int} {d : Int} (v : SV h S c) (w : WF c) (hd : 0 ≤ d) (hd2 : d < 1000000) : fX7_lettersOn h S d = some (lonS c d) := by
  have hj := w.nj
  have kS : (hK h S).1 = 7 := by rw [v.1]
  have v7 : gI h 451 S = c 2 := v.2.2.2.2.2.2.1
  unfold fX7_lettersOn lonS
  have := fg (S := Int) (fun fu v t => fX7_lettersOn_b4 h S d fu t v) some (c 2).toNat (fun i => sm i (fun j => leftS c (j : Int) d)) (by omega) ?_ ?_ 0 (by omega)
  · exact this
  · intro fu i hi
    have e5 : WE ((i : Int) + 1) := we (by omega) (by omega)
    have b2 := lon_bd (d := d) w (i + 1) (by omega)
    have es : sm (i + 1) (fun j => leftS c (j : Int) d) = sm i (fun j => leftS c (j : Int) d) + leftS c (i : Int) d := rfl
    obtain ⟨f1, f2, f3, f4, f5, f6, f7, f8⟩ := v.jar w (j := (i : Int)) (by omega) (by omega)
    have wj := w.wj (j := (i : Int)) (by omega) (by omega)
    show fX7_lettersOn_b4 h S d (fu + 1) _ (i : Int) = fX7_lettersOn_b4 h S d fu (sm (i + 1) (fun j => leftS c (j : Int) d)) _
    rw [es] at b2 ⊢
    rw [fX7_lettersOn_b4.eq_2, v7]
    refine gdg kS (iteT (by omega) (nng f2 (gdg f3 (gdg f4 (nng f5 (gdg f6 (bdg (xLef f6 f7 wj hd hd2) ?_)))))))
    rw [lt_d, lt_d, e5.e, w32_id (by omega) (by omega)]
  · intro fu
    show fX7_lettersOn_b4 h S d (fu + 1) _ ((c 2).toNat : Int) = _
    rw [fX7_lettersOn_b4.eq_2, v7]
    exact gdg kS (iteF (by omega) rfl)
set_option maxHeartbeats 200000 in
theorem left_mono {c : Nat → Int} {j d : Int} (w : WJ c j) (hd : ¬ d = c (196 + j).toNat) : leftS c j d ≤ leftS c j (d - 1) := by
  have h2 := w.2.1
  have b := leftS_bd (d := d - 1) w
  by_cases q : c (188 + j).toNat = 0
  · rw [leftS_0 q]; exact b.1
  · by_cases q2 : d < c (196 + j).toNat
    · rw [leftS_1 q2]; exact b.1
    · rw [leftS_2 q q2, leftS_2 q (by omega)]
      by_cases q3 : c (148 + j).toNat = 0
      · rw [goneS_0 q3, goneS_0 q3]; omega
      · rw [goneS_1 q3, goneS_1 q3]
        have := Int.ediv_le_ediv (a := d - 1 - c (196 + j).toNat) (b := d - c (196 + j).toNat) (c := c (148 + j).toNat) (by omega) (by omega)
        omega
set_option maxHeartbeats 200000 in
theorem sm_mono {n : Nat} {f g : Nat → Int} (h : ∀ k, k < n → f k ≤ g k) : sm n f ≤ sm n g := by
  induction n with
  | zero => exact Int.le_refl _
  | succ n ih =>
    have h1 := ih (fun k hk => h k (by omega))
    have h2 := h n (by omega)
    show sm n f + f n ≤ sm n g + g n
    omega
set_option maxHeartbeats 200000 in
theorem lon_mono {c : Nat → Int} {d : Int} (w : WF c) (h : ∀ j : Int, 0 ≤ j → j < c 2 → ¬ d = c (196 + j).toNat) : lonS c d ≤ lonS c (d - 1) := by
  have hj := w.nj
  exact sm_mono (fun k hk => left_mono (w.wj (j := (k : Int)) (by omega) (by omega)) (h (k : Int) (by omega) (by omega)))
set_option maxHeartbeats 200000 in
/-- the class's answer: the best of the first day and the days of filling -/
theorem xLou {h : Hp} {S : Nat} {c : Nat → Int} {a b : Int} (v : SV h S c) (w : WF c) (a0 : 0 ≤ a) (ab' : a ≤ b) (b8 : b < 100000) :
    ∃ D, (a ≤ D ∧ D ≤ b ∧ (lonS c a < lonS c D ∨ (lonS c a = lonS c D ∧ D ≤ a)) ∧ ∀ j : Int, 0 ≤ j → j < c 2 → a < c (196 + j).toNat → c (196 + j).toNat ≤ b → (lonS c (c (196 + j).toNat) < lonS c D ∨ (lonS c (c (196 + j).toNat) = lonS c D ∧ D ≤ c (196 + j).toNat))) ∧ fX7_loudestDay h S a b = some D := by
  have hj := w.nj
  have kS : (hK h S).1 = 7 := by rw [v.1]
  have v7 : gI h 451 S = c 2 := v.2.2.2.2.2.2.1
  have key := fk (S := Int × Int) (T := Int) (fun fu v t => fX7_loudestDay_b12 h S a b fu t.1 t.2 v) some (c 2).toNat
    (fun i t => a ≤ t.1 ∧ t.1 ≤ b ∧ t.2 = lonS c t.1 ∧ (lonS c a < lonS c t.1 ∨ (lonS c a = lonS c t.1 ∧ t.1 ≤ a)) ∧ ∀ j : Int, 0 ≤ j → j < i → a < c (196 + j).toNat → c (196 + j).toNat ≤ b → (lonS c (c (196 + j).toNat) < lonS c t.1 ∨ (lonS c (c (196 + j).toNat) = lonS c t.1 ∧ t.1 ≤ c (196 + j).toNat)))
    (fun D => a ≤ D ∧ D ≤ b ∧ (lonS c a < lonS c D ∨ (lonS c a = lonS c D ∧ D ≤ a)) ∧ ∀ j : Int, 0 ≤ j → j < c 2 → a < c (196 + j).toNat → c (196 + j).toNat ≤ b → (lonS c (c (196 + j).toNat) < lonS c D ∨ (lonS c (c (196 + j).toNat) = lonS c D ∧ D ≤ c (196 + j).toNat)))
    0 (a, lonS c a) (by omega) ⟨Int.le_refl _, ab', rfl, Or.inr ⟨rfl, Int.le_refl _⟩, fun j j0 j8 => absurd j8 (by omega)⟩ (by omega)
    (fun fu i t hi hI => by
      obtain ⟨best, most⟩ := t
      obtain ⟨p1, p2, p3, p4, p5⟩ := hI
      have p1 : a ≤ best := p1
      have p2 : best ≤ b := p2
      have p3 : most = lonS c best := p3
      have p4 : lonS c a < lonS c best ∨ (lonS c a = lonS c best ∧ best ≤ a) := p4
      have p5 : ∀ j : Int, 0 ≤ j → j < i → a < c (196 + j).toNat → c (196 + j).toNat ≤ b → (lonS c (c (196 + j).toNat) < lonS c best ∨ (lonS c (c (196 + j).toNat) = lonS c best ∧ best ≤ c (196 + j).toNat)) := p5
      have e5 : WE ((i : Int) + 1) := we (by omega) (by omega)
      obtain ⟨f1, f2, f3, f4, f5, f6, f7, f8⟩ := v.jar w (j := (i : Int)) (by omega) (by omega)
      have f9 : gI h 7 (S + 5 + 3 * (i : Int).toNat) = c (196 + (i : Int)).toNat := f7.2.2.2.2.2.2.2.1
      have wj := (w.wj (j := (i : Int)) (by omega) (by omega)).2.2.2.2.2.2.2.1
      left
      have stay : ∀ (hh : ¬ (a < c (196 + (i : Int)).toNat ∧ c (196 + (i : Int)).toNat ≤ b ∧ (lonS c best < lonS c (c (196 + (i : Int)).toNat) ∨ (lonS c (c (196 + (i : Int)).toNat) = lonS c best ∧ c (196 + (i : Int)).toNat < best)))), ∀ j : Int, 0 ≤ j → j < ((i + 1 : Nat) : Int) → a < c (196 + j).toNat → c (196 + j).toNat ≤ b → (lonS c (c (196 + j).toNat) < lonS c best ∨ (lonS c (c (196 + j).toNat) = lonS c best ∧ best ≤ c (196 + j).toNat)) := fun hh j j0 j8 x1 x2 => by
        by_cases z : j = (i : Int)
        · rw [z] at x1 x2 ⊢
          by_cases y1 : lonS c best < lonS c (c (196 + (i : Int)).toNat)
          · exact absurd ⟨x1, x2, Or.inl y1⟩ hh
          · by_cases y2 : lonS c (c (196 + (i : Int)).toNat) = lonS c best
            · right
              refine ⟨y2, ?_⟩
              by_cases y3 : c (196 + (i : Int)).toNat < best
              · exact absurd ⟨x1, x2, Or.inr ⟨y2, y3⟩⟩ hh
              · omega
            · left; omega
        · exact p5 j j0 (by omega) x1 x2
      by_cases q1 : a < c (196 + (i : Int)).toNat ∧ c (196 + (i : Int)).toNat ≤ b
      · have xl := xLon (d := c (196 + (i : Int)).toNat) v w (by omega) (by omega)
        by_cases q2 : lonS c best < lonS c (c (196 + (i : Int)).toNat) ∨ (lonS c (c (196 + (i : Int)).toNat) = lonS c best ∧ c (196 + (i : Int)).toNat < best)
        · refine ⟨(c (196 + (i : Int)).toNat, lonS c (c (196 + (i : Int)).toNat)), ⟨by show a ≤ c (196 + (i : Int)).toNat; omega, q1.2, rfl, ?_, fun j j0 j8 x1 x2 => ?_⟩, ?_⟩
          · show lonS c a < lonS c (c (196 + (i : Int)).toNat) ∨ (lonS c a = lonS c (c (196 + (i : Int)).toNat) ∧ c (196 + (i : Int)).toNat ≤ a)
            rcases p4 with z | z <;> rcases q2 with y | y <;> omega
          · show lonS c (c (196 + j).toNat) < lonS c (c (196 + (i : Int)).toNat) ∨ (lonS c (c (196 + j).toNat) = lonS c (c (196 + (i : Int)).toNat) ∧ c (196 + (i : Int)).toNat ≤ c (196 + j).toNat)
            by_cases z : j = (i : Int)
            · rw [z]; exact Or.inr ⟨rfl, Int.le_refl _⟩
            · have := p5 j j0 (by omega) x1 x2
              rcases this with z | z <;> rcases q2 with y | y <;> omega
          · show fX7_loudestDay_b12 h S a b (fu + 1) best most (i : Int) = fX7_loudestDay_b12 h S a b fu (c (196 + (i : Int)).toNat) (lonS c (c (196 + (i : Int)).toNat)) ((i : Int) + 1)
            have e73 : fX7_loudestDay_b73 h S a b (fX7_loudestDay_b12 h S a b fu) (i : Int) (c (196 + (i : Int)).toNat) (lonS c (c (196 + (i : Int)).toNat)) = fX7_loudestDay_b12 h S a b fu (c (196 + (i : Int)).toNat) (lonS c (c (196 + (i : Int)).toNat)) ((i : Int) + 1) := by rw [fX7_loudestDay_b73, fX7_loudestDay_b80, lt_d, e5.e]
            rw [fX7_loudestDay_b12.eq_2, v7, p3]
            refine gdg kS (iteT (by omega) (nng f2 (gdg f3 (gdg f4 (nng f5 (gdg f6 ?_))))))
            rw [lt_d, f9]
            refine iteF (by omega) (iteT q1.2 (bdg xl ?_))
            by_cases y1 : lonS c best < lonS c (c (196 + (i : Int)).toNat)
            · exact iteF (by omega) e73
            · have y2 := q2.resolve_left y1
              exact iteT (by omega) (iteT y2.1 (iteT y2.2 e73))
        · refine ⟨(best, most), ⟨p1, p2, p3, p4, stay (fun z => q2 z.2.2)⟩, ?_⟩
          show fX7_loudestDay_b12 h S a b (fu + 1) best most (i : Int) = fX7_loudestDay_b12 h S a b fu best most ((i : Int) + 1)
          have e80 : fX7_loudestDay_b80 h S a b (fX7_loudestDay_b12 h S a b fu) best most (i : Int) = fX7_loudestDay_b12 h S a b fu best most ((i : Int) + 1) := by rw [fX7_loudestDay_b80, lt_d, e5.e]
          rw [fX7_loudestDay_b12.eq_2, v7]
          refine gdg kS (iteT (by omega) (nng f2 (gdg f3 (gdg f4 (nng f5 (gdg f6 ?_))))))
          rw [lt_d, f9]
          refine iteF (by omega) (iteT q1.2 (bdg xl (iteT (by omega) ?_)))
          by_cases y1 : lonS c (c (196 + (i : Int)).toNat) = most
          · exact iteT y1 (iteF (by omega) e80)
          · exact iteF y1 e80
      · refine ⟨(best, most), ⟨p1, p2, p3, p4, stay (fun z => q1 ⟨z.1, z.2.1⟩)⟩, ?_⟩
        show fX7_loudestDay_b12 h S a b (fu + 1) best most (i : Int) = fX7_loudestDay_b12 h S a b fu best most ((i : Int) + 1)
        have e80 : fX7_loudestDay_b80 h S a b (fX7_loudestDay_b12 h S a b fu) best most (i : Int) = fX7_loudestDay_b12 h S a b fu best most ((i : Int) + 1) := by rw [fX7_loudestDay_b80, lt_d, e5.e]
        rw [fX7_loudestDay_b12.eq_2, v7]
        refine gdg kS (iteT (by omega) (nng f2 (gdg f3 (gdg f4 (nng f5 (gdg f6 ?_))))))
        rw [lt_d, f9]
        by_cases y1 : c (196 + (i : Int)).toNat ≤ a
        · exact iteT y1 e80
        · exact iteF y1 (iteF (by omega) e80))
    (fun fu t hI => by
      obtain ⟨best, most⟩ := t
      obtain ⟨p1, p2, p3, p4, p5⟩ := hI
      refine ⟨best, ⟨p1, p2, p4, fun j j0 j8 => p5 j j0 (by omega)⟩, ?_⟩
      show fX7_loudestDay_b12 h S a b (fu + 1) best most ((c 2).toNat : Int) = _
      rw [fX7_loudestDay_b12.eq_2, v7]
      exact gdg kS (iteF (by omega) rfl))
  obtain ⟨D, hD, e⟩ := key
  exact ⟨D, hD, gdg kS (bdg (xLon v w a0 (by omega)) e)⟩
set_option maxHeartbeats 200000 in
/-- the reference's answer: the first of the best of all days -/
theorem rLou {h : Hp} {M : Nat} {c : Nat → Int} {dd u : Int} (ms : MS h M) (hc : gA h (M + 5) = c) (w : WF c) (d0 : 0 ≤ dd) (d8 : dd ≤ 999) :
    ∃ D, (c 0 ≤ D ∧ D ≤ c 0 + dd ∧ (∀ x, c 0 ≤ x → x ≤ c 0 + dd → lonS c x ≤ lonS c D) ∧ ∀ x, c 0 ≤ x → x < D → lonS c x < lonS c D) ∧ fX12_loudest_b51 M dd u FU h (-1) (-1) (c 0) = (if u = 0 then some (D, h) else some (lonS c D, h)) := by
  have hj := w.nj
  have wd := w.day
  have key := fk (S := Int × Int) (T := Int) (fun fu v t => fX12_loudest_b51 M dd u fu h t.1 t.2 v) (fun D => if u = 0 then some (D, h) else some (lonS c D, h)) (c 0 + dd + 1).toNat
    (fun i t => ((i : Int) = c 0 ∧ t.2 = -1) ∨ (c 0 ≤ t.1 ∧ t.1 < i ∧ t.2 = lonS c t.1 ∧ (∀ x, c 0 ≤ x → x < i → lonS c x ≤ lonS c t.1) ∧ ∀ x, c 0 ≤ x → x < t.1 → lonS c x < lonS c t.1))
    (fun D => c 0 ≤ D ∧ D ≤ c 0 + dd ∧ (∀ x, c 0 ≤ x → x ≤ c 0 + dd → lonS c x ≤ lonS c D) ∧ ∀ x, c 0 ≤ x → x < D → lonS c x < lonS c D)
    (c 0).toNat (-1, -1) (by omega) (Or.inl ⟨by omega, rfl⟩) (by omega)
    (fun fu i t hi hI => by
      obtain ⟨best, most⟩ := t
      have hI : ((i : Int) = c 0 ∧ most = -1) ∨ (c 0 ≤ best ∧ best < i ∧ most = lonS c best ∧ (∀ x, c 0 ≤ x → x < i → lonS c x ≤ lonS c best) ∧ ∀ x, c 0 ≤ x → x < best → lonS c x < lonS c best) := hI
      have i0 : c 0 ≤ (i : Int) := by
        rcases hI with z | z
        · omega
        · omega
      have e5 : WE ((i : Int) + 1) := we (by omega) (by omega)
      have e6 : WE (c 0 + dd) := we (by omega) (by omega)
      have lb := lon_bd (d := (i : Int)) w (c 2).toNat (by omega)
      have inner := fg (S := Int) (fun fu2 v t => fX12_loudest_b70 M dd u (fX12_loudest_b51 M dd u fu) fu2 h best most (i : Int) t v) (fun t => if most < t then fX12_loudest_b51 M dd u fu h (i : Int) t ((i : Int) + 1) else fX12_loudest_b51 M dd u fu h best most ((i : Int) + 1)) (c 2).toNat (fun n => sm n (fun j => leftS c (j : Int) (i : Int))) (by omega)
        (fun fu2 k hk => by
          have e7 : WE ((k : Int) + 1) := we (by omega) (by omega)
          have b2 := lon_bd (d := (i : Int)) w (k + 1) (by omega)
          have es : sm (k + 1) (fun j => leftS c (j : Int) (i : Int)) = sm k (fun j => leftS c (j : Int) (i : Int)) + leftS c (k : Int) (i : Int) := rfl
          show fX12_loudest_b70 M dd u (fX12_loudest_b51 M dd u fu) (fu2 + 1) h best most (i : Int) _ (k : Int) = fX12_loudest_b70 M dd u (fX12_loudest_b51 M dd u fu) fu2 h best most (i : Int) (sm (k + 1) (fun j => leftS c (j : Int) (i : Int))) ((k : Int) + 1)
          rw [es] at b2 ⊢
          rw [fX12_loudest_b70.eq_2]
          simp only [lt_d, ms.r788, nn_s, ms.k0, ms.k5, gd_T, eq_self, hc, bd2_id, Int.reduceToNat]
          refine gdg (by omega) (iteT (by omega) (bdg (rLeft (w.wj (j := (k : Int)) (by omega) (by omega)) (by omega) (by omega) (by omega) (by omega)) ?_))
          rw [w32_id (by omega) (by omega), e7.e])
        (fun fu2 => by
          show fX12_loudest_b70 M dd u (fX12_loudest_b51 M dd u fu) (fu2 + 1) h best most (i : Int) (lonS c (i : Int)) ((c 2).toNat : Int) = (if most < lonS c (i : Int) then fX12_loudest_b51 M dd u fu h (i : Int) (lonS c (i : Int)) ((i : Int) + 1) else fX12_loudest_b51 M dd u fu h best most ((i : Int) + 1))
          rw [fX12_loudest_b70.eq_2]
          simp only [lt_d, ms.r788, nn_s, ms.k0, ms.k5, gd_T, eq_self, hc, bd2_id, Int.reduceToNat]
          refine gdg (by omega) (iteF (by omega) ?_)
          by_cases z : most < lonS c (i : Int)
          · refine Eq.trans ?_ (if_pos z).symm
            refine iteF (by omega) ?_
            rw [fX12_loudest_b117, lt_d, e5.e]
          · refine Eq.trans ?_ (if_neg z).symm
            refine iteT (by omega) ?_
            rw [fX12_loudest_b117, lt_d, e5.e]) 0 (by omega)
      have inner : fX12_loudest_b70 M dd u (fX12_loudest_b51 M dd u fu) FU h best most (i : Int) 0 0 = (if most < lonS c (i : Int) then fX12_loudest_b51 M dd u fu h (i : Int) (lonS c (i : Int)) ((i : Int) + 1) else fX12_loudest_b51 M dd u fu h best most ((i : Int) + 1)) := inner
      have unf : fX12_loudest_b51 M dd u (fu + 1) h best most (i : Int) = fX12_loudest_b70 M dd u (fX12_loudest_b51 M dd u fu) FU h best most (i : Int) 0 0 := by
        rw [fX12_loudest_b51.eq_2]
        simp only [lt_d, ms.r788, nn_s, ms.k0, ms.k5, gd_T, eq_self, hc, bd2_id, Int.reduceToNat]
        rw [e6.e]
        exact gdg (by omega) (iteT (by omega) rfl)
      have lb0 : 0 ≤ lonS c (i : Int) := lb.1
      left
      by_cases z : most < lonS c (i : Int)
      · rw [if_pos z] at inner
        refine ⟨((i : Int), lonS c (i : Int)), Or.inr ⟨i0, by show (i : Int) < ((i + 1 : Nat) : Int); omega, rfl, fun x x0 x8 => ?_, fun x x0 x8 => ?_⟩, ?_⟩
        · show lonS c x ≤ lonS c (i : Int)
          by_cases y : x = (i : Int)
          · rw [y]; exact Int.le_refl _
          · rcases hI with q | q
            · omega
            · have := q.2.2.2.1 x x0 (by omega)
              omega
        · show lonS c x < lonS c (i : Int)
          have x8 : x < (i : Int) := x8
          rcases hI with q | q
          · omega
          · have := q.2.2.2.1 x x0 (by omega)
            omega
        · show fX12_loudest_b51 M dd u (fu + 1) h best most (i : Int) = _
          rw [unf, inner]
      · rw [if_neg z] at inner
        refine ⟨(best, most), Or.inr ?_, ?_⟩
        · rcases hI with q | q
          · omega
          · refine ⟨q.1, by have := q.2.1; show best < ((i + 1 : Nat) : Int); omega, q.2.2.1, fun x x0 x8 => ?_, q.2.2.2.2⟩
            by_cases y : x = (i : Int)
            · rw [y]; have := q.2.2.1; show lonS c (i : Int) ≤ lonS c best; omega
            · exact q.2.2.2.1 x x0 (by omega)
        · show fX12_loudest_b51 M dd u (fu + 1) h best most (i : Int) = _
          rw [unf, inner])
    (fun fu t hI => by
      obtain ⟨best, most⟩ := t
      have hI : ((((c 0 + dd + 1).toNat : Nat) : Int) = c 0 ∧ most = -1) ∨ (c 0 ≤ best ∧ best < (((c 0 + dd + 1).toNat : Nat) : Int) ∧ most = lonS c best ∧ (∀ x, c 0 ≤ x → x < (((c 0 + dd + 1).toNat : Nat) : Int) → lonS c x ≤ lonS c best) ∧ ∀ x, c 0 ≤ x → x < best → lonS c x < lonS c best) := hI
      have q := hI.resolve_left (by omega)
      have e6 : WE (c 0 + dd) := we (by omega) (by omega)
      refine ⟨best, ⟨q.1, by omega, fun x x0 x8 => q.2.2.2.1 x x0 (by omega), q.2.2.2.2⟩, ?_⟩
      show fX12_loudest_b51 M dd u (fu + 1) h best most (((c 0 + dd + 1).toNat : Nat) : Int) = (if u = 0 then some (best, h) else some (lonS c best, h))
      rw [fX12_loudest_b51.eq_2]
      simp only [lt_d, ms.r788, nn_s, ms.k0, ms.k5, gd_T, eq_self, hc, bd2_id, Int.reduceToNat]
      rw [e6.e, q.2.2.1]
      exact gdg (by omega) (iteF (by omega) rfl))
  obtain ⟨D, hD, e⟩ := key
  refine ⟨D, hD, ?_⟩
  rw [show (((c 0).toNat : Nat) : Int) = c 0 by omega] at e
  exact e
set_option maxHeartbeats 200000 in
theorem louEq {c : Nat → Int} {a b D E : Int} (w : WF c) (d1 : a ≤ D) (d2 : D ≤ b) (d3 : lonS c a < lonS c D ∨ (lonS c a = lonS c D ∧ D ≤ a)) (d4 : ∀ j : Int, 0 ≤ j → j < c 2 → a < c (196 + j).toNat → c (196 + j).toNat ≤ b → (lonS c (c (196 + j).toNat) < lonS c D ∨ (lonS c (c (196 + j).toNat) = lonS c D ∧ D ≤ c (196 + j).toNat)))
    (e1 : a ≤ E) (e2 : E ≤ b) (e3 : ∀ x, a ≤ x → x ≤ b → lonS c x ≤ lonS c E) (e4 : ∀ x, a ≤ x → x < E → lonS c x < lonS c E) : D = E := by
  have key : lonS c E < lonS c D ∨ (lonS c E = lonS c D ∧ D ≤ E) := by
    by_cases z : E = a
    · rw [z]; exact d3
    · by_cases y : ∃ j : Int, 0 ≤ j ∧ j < c 2 ∧ E = c (196 + j).toNat
      · obtain ⟨j, j0, j8, je⟩ := y
        rw [je]
        exact d4 j j0 j8 (by omega) (by omega)
      · have m := lon_mono (d := E) w (fun j j0 j8 je => y ⟨j, j0, j8, je⟩)
        have := e4 (E - 1) (by omega) (by omega)
        omega
  have h1 := e3 D d1 d2
  rcases key with z | z
  · omega
  · by_cases y : D < E
    · have := e4 D d1 y
      omega
    · omega

set_option maxHeartbeats 200000 in
theorem ok_loudest {h : Hp} {X : Nat} {c : Nat → Int} {d u : Int} (H : CX h X c) (G : CM h X c) : OK2 (fun h => fX11_loudest h X d u) (fun h => fX12_loudest h (X + 121) d u) h X := by
  have w := H.wf
  by_cases q1 : 0 ≤ d ∧ d ≤ 999
  · by_cases q2 : 0 ≤ u ∧ u ≤ 1
    · have wd := w.day
      obtain ⟨S, f1, f2, f3, f4, f5, -⟩ := H.shop
      have r5 : gI h 719 X = c 0 := H.2.2.1
      obtain ⟨D, ⟨d1, d2, d3, d4⟩, d5⟩ := xLou (a := c 0) (b := c 0 + d) f3 w wd.1 (by omega) (by omega)
      have d6 : fX7_loudestDay h S (gI h 719 X) (w32 (gI h 719 X + d)) = some D := by rw [r5, w32_id (by omega) (by omega)]; exact d5
      have d7 := xLon (d := D) f3 w (by omega) (by omega)
      by_cases u0 : u = 0
      · refine ⟨0, D, ?_, fun h1 p => ?_⟩
        · show XR (fX11_loudest h X d u) h X _ _
          unfold fX11_loudest
          exact XR.of (by (repeat' (first | (with_reducible refine ltg ?_) | ((with_reducible refine iteT ?_ ?_); omega) | ((with_reducible refine iteF ?_ ?_); omega) | ((with_reducible refine gdg ?_ ?_); first | with_reducible exact H.k | exact xIn1 q1.1 q1.2 | exact xIn1 q2.1 q2.2 | with_reducible exact f1 | with_reducible exact f2 | with_reducible exact d6 | omega) | ((with_reducible apply nng); first | with_reducible exact H.k | exact xIn1 q1.1 q1.2 | exact xIn1 q2.1 q2.2 | with_reducible exact f1 | with_reducible exact f2 | with_reducible exact d6) | ((with_reducible apply bdg); first | with_reducible exact H.k | exact xIn1 q1.1 q1.2 | exact xIn1 q2.1 q2.2 | with_reducible exact f1 | with_reducible exact f2 | with_reducible exact d6) | ((with_reducible apply bd2g); first | with_reducible exact H.k | exact xIn1 q1.1 q1.2 | exact xIn1 q2.1 q2.2 | with_reducible exact f1 | with_reducible exact f2 | with_reducible exact d6))); exact bd2_id _) (xr_an H.k (QR.rf h))
        · obtain ⟨ms, hc, -⟩ := G.q p
          obtain ⟨E, ⟨e1, e2, e3, e4⟩, e5⟩ := rLou (h := pI (pI h1 769 (X + 121) 0) 768 (X + 121) 0) (u := u) ms hc w q1.1 q1.2
          rw [if_pos u0, ← louEq w d1 d2 d3 d4 e1 e2 e3 e4] at e5
          simp only [fX12_loudest, lt_d, hK_pI, gR_pI, gA_pI, gB_pI, gC_pI, gJ_pI, ms.r788, nn_s, ms.k0, ms.k5, gd_T, eq_self, hc, bd2_id, Int.reduceToNat]
          exact MR.of (by (repeat' (first | (with_reducible refine ltg ?_) | ((with_reducible refine iteT ?_ ?_); omega) | ((with_reducible refine iteF ?_ ?_); omega) | ((with_reducible refine gdg ?_ ?_); first | exact rIn1 q1.1 q1.2 | exact rIn1 q2.1 q2.2 | omega) | ((with_reducible apply nng); first | exact rIn1 q1.1 q1.2 | exact rIn1 q2.1 q2.2) | ((with_reducible apply bdg); first | exact rIn1 q1.1 q1.2 | exact rIn1 q2.1 q2.2) | ((with_reducible apply bd2g); first | exact rIn1 q1.1 q1.2 | exact rIn1 q2.1 q2.2))); exact e5) mr_m0
      · refine ⟨0, lonS c D, ?_, fun h1 p => ?_⟩
        · show XR (fX11_loudest h X d u) h X _ _
          unfold fX11_loudest
          exact XR.of (by (repeat' (first | (with_reducible refine ltg ?_) | ((with_reducible refine iteT ?_ ?_); omega) | ((with_reducible refine iteF ?_ ?_); omega) | ((with_reducible refine gdg ?_ ?_); first | with_reducible exact H.k | exact xIn1 q1.1 q1.2 | exact xIn1 q2.1 q2.2 | with_reducible exact f1 | with_reducible exact f2 | with_reducible exact d6 | with_reducible exact d7 | omega) | ((with_reducible apply nng); first | with_reducible exact H.k | exact xIn1 q1.1 q1.2 | exact xIn1 q2.1 q2.2 | with_reducible exact f1 | with_reducible exact f2 | with_reducible exact d6 | with_reducible exact d7) | ((with_reducible apply bdg); first | with_reducible exact H.k | exact xIn1 q1.1 q1.2 | exact xIn1 q2.1 q2.2 | with_reducible exact f1 | with_reducible exact f2 | with_reducible exact d6 | with_reducible exact d7) | ((with_reducible apply bd2g); first | with_reducible exact H.k | exact xIn1 q1.1 q1.2 | exact xIn1 q2.1 q2.2 | with_reducible exact f1 | with_reducible exact f2 | with_reducible exact d6 | with_reducible exact d7))); exact bd2_id _) (xr_an H.k (QR.rf h))
        · obtain ⟨ms, hc, -⟩ := G.q p
          obtain ⟨E, ⟨e1, e2, e3, e4⟩, e5⟩ := rLou (h := pI (pI h1 769 (X + 121) 0) 768 (X + 121) 0) (u := u) ms hc w q1.1 q1.2
          rw [if_neg u0, ← louEq w d1 d2 d3 d4 e1 e2 e3 e4] at e5
          simp only [fX12_loudest, lt_d, hK_pI, gR_pI, gA_pI, gB_pI, gC_pI, gJ_pI, ms.r788, nn_s, ms.k0, ms.k5, gd_T, eq_self, hc, bd2_id, Int.reduceToNat]
          exact MR.of (by (repeat' (first | (with_reducible refine ltg ?_) | ((with_reducible refine iteT ?_ ?_); omega) | ((with_reducible refine iteF ?_ ?_); omega) | ((with_reducible refine gdg ?_ ?_); first | exact rIn1 q1.1 q1.2 | exact rIn1 q2.1 q2.2 | omega) | ((with_reducible apply nng); first | exact rIn1 q1.1 q1.2 | exact rIn1 q2.1 q2.2) | ((with_reducible apply bdg); first | exact rIn1 q1.1 q1.2 | exact rIn1 q2.1 q2.2) | ((with_reducible apply bd2g); first | exact rIn1 q1.1 q1.2 | exact rIn1 q2.1 q2.2))); exact e5) mr_m0
    · refine ⟨5, -1, ?_, fun h1 p => ?_⟩
      · show XR (fX11_loudest h X d u) h X _ _
        unfold fX11_loudest
        exact XR.of (by (repeat' (first | (with_reducible refine ltg ?_) | ((with_reducible refine iteT ?_ ?_); omega) | ((with_reducible refine iteF ?_ ?_); omega) | ((with_reducible refine gdg ?_ ?_); first | with_reducible exact H.k | exact xIn1 q1.1 q1.2 | exact xIn0 (by omega) | omega) | ((with_reducible apply nng); first | with_reducible exact H.k | exact xIn1 q1.1 q1.2 | exact xIn0 (by omega)) | ((with_reducible apply bdg); first | with_reducible exact H.k | exact xIn1 q1.1 q1.2 | exact xIn0 (by omega)) | ((with_reducible apply bd2g); first | with_reducible exact H.k | exact xIn1 q1.1 q1.2 | exact xIn0 (by omega)))); exact bd2_id _) (xr_re H.k (QR.rf h) (rg_lit rfl))
      · obtain ⟨ms, hc, -⟩ := G.q p
        simp only [fX12_loudest, lt_d, hK_pI, gR_pI, gA_pI, gB_pI, gC_pI, gJ_pI, ms.r788, nn_s, ms.k0, ms.k5, gd_T, eq_self, hc, bd2_id, Int.reduceToNat]
        exact MR.of (by (repeat' (first | (with_reducible refine ltg ?_) | ((with_reducible refine iteT ?_ ?_); omega) | ((with_reducible refine iteF ?_ ?_); omega) | ((with_reducible refine gdg ?_ ?_); first | exact rIn1 q1.1 q1.2 | exact rIn0 (by omega) | omega) | ((with_reducible apply nng); first | exact rIn1 q1.1 q1.2 | exact rIn0 (by omega)) | ((with_reducible apply bdg); first | exact rIn1 q1.1 q1.2 | exact rIn0 (by omega)) | ((with_reducible apply bd2g); first | exact rIn1 q1.1 q1.2 | exact rIn0 (by omega)))); rfl) (mr_m0r ms (rg_lit rfl))
  · refine ⟨5, -1, ?_, fun h1 p => ?_⟩
    · show XR (fX11_loudest h X d u) h X _ _
      unfold fX11_loudest
      exact XR.of (by (repeat' (first | (with_reducible refine ltg ?_) | ((with_reducible refine iteT ?_ ?_); omega) | ((with_reducible refine iteF ?_ ?_); omega) | ((with_reducible refine gdg ?_ ?_); first | with_reducible exact H.k | exact xIn0 (by omega) | omega) | ((with_reducible apply nng); first | with_reducible exact H.k | exact xIn0 (by omega)) | ((with_reducible apply bdg); first | with_reducible exact H.k | exact xIn0 (by omega)) | ((with_reducible apply bd2g); first | with_reducible exact H.k | exact xIn0 (by omega)))); exact bd2_id _) (xr_re H.k (QR.rf h) (rg_lit rfl))
    · obtain ⟨ms, hc, -⟩ := G.q p
      simp only [fX12_loudest, lt_d, hK_pI, gR_pI, gA_pI, gB_pI, gC_pI, gJ_pI, ms.r788, nn_s, ms.k0, ms.k5, gd_T, eq_self, hc, bd2_id, Int.reduceToNat]
      exact MR.of (by (repeat' (first | (with_reducible refine ltg ?_) | ((with_reducible refine iteT ?_ ?_); omega) | ((with_reducible refine iteF ?_ ?_); omega) | ((with_reducible refine gdg ?_ ?_); first | exact rIn0 (by omega) | omega) | ((with_reducible apply nng); first | exact rIn0 (by omega)) | ((with_reducible apply bdg); first | exact rIn0 (by omega)) | ((with_reducible apply bd2g); first | exact rIn0 (by omega)))); rfl) (mr_m0r ms (rg_lit rfl))
