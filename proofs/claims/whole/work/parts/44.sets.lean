/-! SETS of jars, sums over them, the least set -/
def b01 (b : Bool) : Int := if b then 1 else 0
set_option maxHeartbeats 200000 in
theorem xIsIn {s k : Nat} (hs : s < 2147483648) (hk : k < 31) : fX11_isIn (s : Int) (k : Int) = some (b01 (s.testBit k)) := by
  unfold fX11_isIn b01
  rw [bit_n hs (by omega)]
  by_cases q : s.testBit k = true
  · rw [if_pos q, if_neg (by omega)]
  · rw [if_neg q, if_pos rfl]
set_option maxHeartbeats 200000 in
theorem rHas {s k : Nat} (hs : s < 2147483648) (hk : k < 31) : fX12_has (s : Int) (k : Int) = some (b01 (s.testBit k)) := by
  unfold fX12_has b01
  rw [bit_n hs (by omega)]
  by_cases q : s.testBit k = true
  · rw [if_pos q, if_pos rfl]
  · rw [if_neg q, if_neg (by omega)]
set_option maxHeartbeats 200000 in
theorem bcN_bd (n s : Nat) : 0 ≤ bcN n s ∧ bcN n s ≤ n := by
  have := sm_bd (n := n) (f := fun k => if s.testBit k then 1 else 0) (a := 0) (b := 1) (fun k _ => by
    show 0 ≤ (if s.testBit k then (1 : Int) else 0) ∧ (if s.testBit k then (1 : Int) else 0) ≤ 1
    split <;> omega)
  unfold bcN
  omega
set_option maxHeartbeats 200000 in
theorem rBits {s : Nat} (hs : s < 2147483648) : fX12_bits (s : Int) = some (bcN 8 s) := by
  unfold fX12_bits
  have := fg (S := Int) (fun fu v t => fX12_bits_b4 (s : Int) fu t v) some 8 (fun i => bcN i s) (by omega) ?_ ?_ 0 (by omega)
  · exact this
  · intro fu i hi
    have e5 : WE ((i : Int) + 1) := we (by omega) (by omega)
    have b := bcN_bd i s
    have b2 := bcN_bd (i + 1) s
    show fX12_bits_b4 (s : Int) (fu + 1) (bcN i s) (i : Int) = fX12_bits_b4 (s : Int) fu (bcN (i + 1) s) _
    have eb : bcN (i + 1) s = bcN i s + (if s.testBit i then 1 else 0) := rfl
    rw [fX12_bits_b4.eq_2, bit_n hs (by omega), ← eb]
    refine iteT (by omega) ?_
    rw [lt_d, lt_d, w32_id (by omega) (by omega), e5.e]
  · intro fu
    show fX12_bits_b4 (s : Int) (fu + 1) _ ((8 : Nat) : Int) = _
    rw [fX12_bits_b4.eq_2]
    exact iteF (by omega) rfl
/-- what a jar keeps of its SIZE behind d days -/
def keepS (c : Nat → Int) (j d : Int) : Int := c (140 + j).toNat - goneS c j (c (140 + j).toNat) d
set_option maxHeartbeats 200000 in
theorem keepS_bd {c : Nat → Int} {j d : Int} (w : WJ c j) (hd : 0 ≤ d) : 0 ≤ keepS c j d ∧ keepS c j d ≤ 12 := by
  have h1 := w.1
  have := goneS_bd (c := c) (j := j) (m := c (140 + j).toNat) (d := d) w h1.1 hd
  unfold keepS
  omega
set_option maxHeartbeats 200000 in
theorem xKeep {h : Hp} {a : Nat} {c : Nat → Int} {j d : Int} (k : (hK h a).1 = 0) (v : JV h a c j) (w : WJ c j) (hd : 0 ≤ d) (hd2 : d < 1000000) : fX0_keptAfter h a d = some (keepS c j d) := by
  have h1 := w.1
  have h2 := w.2.1
  unfold fX0_keptAfter keepS
  rw [v.1]
  by_cases q : c (148 + j).toNat = 0
  · rw [goneS_0 q]
    refine gdg k (bdg (xGon0 k v q) ?_)
    rw [w32_id (by omega) (by omega)]
    congr 1
    omega
  · rw [goneS_1 q]
    have b := ediv_bd (d := d) (m := c (148 + j).toNat) hd (by omega)
    refine gdg k (bdg (xGon1 k v w hd hd2 q) ?_)
    rw [w32_id (by omega) (by omega)]
    congr 1
    omega
set_option maxHeartbeats 200000 in
theorem rKeep {c : Nat → Int} {j d : Int} (w : WJ c j) (h0 : 0 ≤ j) (h8 : j < 8) (hd : 0 ≤ d) (hd2 : d < 1000000) : fX12_keepsOf c j d = some (keepS c j d) := by
  have b := keepS_bd w hd
  unfold keepS at b
  unfold fX12_keepsOf keepS
  rw [w32_id (x := 140 + j) (by omega) (by omega)]
  (repeat' (first | (with_reducible refine ltg ?_) | ((with_reducible refine iteT ?_ ?_); omega) | ((with_reducible refine iteF ?_ ?_); omega) | ((with_reducible refine gdg ?_ ?_); first | exact rGone w h0 h8 hd (by omega) | omega) | ((with_reducible apply nng); first | exact rGone w h0 h8 hd (by omega)) | ((with_reducible apply bdg); first | exact rGone w h0 h8 hd (by omega)) | ((with_reducible apply bd2g); first | exact rGone w h0 h8 hd (by omega))))
  rw [w32_id (by omega) (by omega)]
/-- a sum over the members of a set -/
def ssm (n s : Nat) (f : Nat → Int) : Int := sm n (fun j => if s.testBit j then f j else 0)
set_option maxHeartbeats 200000 in
theorem ssm_bd {n s : Nat} {f : Nat → Int} {b : Int} (hb : 0 ≤ b) (h : ∀ j, j < n → 0 ≤ f j ∧ f j ≤ b) : 0 ≤ ssm n s f ∧ ssm n s f ≤ n * b := by
  have := sm_bd (n := n) (f := fun j => if s.testBit j then f j else 0) (a := 0) (b := b) (fun k hk => by
    have := h k hk
    show 0 ≤ (if s.testBit k then f k else (0 : Int)) ∧ (if s.testBit k then f k else (0 : Int)) ≤ b
    split <;> omega)
  unfold ssm
  omega
set_option maxHeartbeats 200000 in
theorem ssm_s {n s : Nat} {f : Nat → Int} : ssm (n + 1) s f = ssm n s f + (if s.testBit n then f n else 0) := rfl
set_option maxHeartbeats 200000 in
theorem ssm_1 {n s : Nat} : ssm n s (fun _ => 1) = bcN n s := rfl
set_option maxHeartbeats 200000 in
/-- a shop's jar j -/
theorem SV.jar {h : Hp} {S : Nat} {c : Nat → Int} {j : Int} (v : SV h S c) (w : WF c) (j0 : 0 ≤ j) (j8 : j < c 2) :
    (hK h S).1 = 7 ∧ gR h 449 S = some (S + 2) ∧ (hK h (S + 2)).1 = 24 ∧ inA j (hK h (S + 2)).2 ∧ gC h (S + 2) j.toNat = some (S + 5 + 3 * j.toNat) ∧ (hK h (S + 5 + 3 * j.toNat)).1 = 0 ∧ JV h (S + 5 + 3 * j.toNat) c j ∧ gI h 451 S = c 2 := by
  obtain ⟨v1, v2, v3, v4, v5, v6, v7, v8, v9, v10⟩ := v
  have hj := w.nj
  obtain ⟨c1, c2⟩ := v9 j j0 (by omega)
  exact ⟨by rw [v1], v3, by rw [v5], by rw [v5]; show 0 ≤ _ ∧ _ < (8 : Int); omega, c1, by rw [c2], v10 j j0 j8, v7⟩
def kbS (c : Nat → Int) (s : Nat) (d : Int) : Int := ssm (c 2).toNat s (fun j => keepS c (j : Int) d)
set_option maxHeartbeats 200000 in
theorem kb_bd {c : Nat → Int} {d : Int} (w : WF c) (hd : 0 ≤ d) (s n : Nat) (hn : (n : Int) ≤ c 2) : 0 ≤ ssm n s (fun j => keepS c (j : Int) d) ∧ ssm n s (fun j => keepS c (j : Int) d) ≤ 96 := by
  have hj := w.nj
  have := ssm_bd (n := n) (s := s) (f := fun j => keepS c (j : Int) d) (b := 12) (by omega) (fun j hj' => keepS_bd (w.wj (j := (j : Int)) (by omega) (by omega)) hd)
  omega
set_option maxHeartbeats 200000 in
theorem xKeptBy {h : Hp} {S s : Nat} {c : Nat → Int} {d : Int} (v : SV h S c) (w : WF c) (hs : s < 2147483648) (hd : 0 ≤ d) (hd2 : d < 1000000) : fX7_keptBy h S (s : Int) d = some (kbS c s d) := by
  have hj := w.nj
  have kS : (hK h S).1 = 7 := by rw [v.1]
  have v7 : gI h 451 S = c 2 := v.2.2.2.2.2.2.1
  unfold fX7_keptBy kbS
  have := fg (S := Int) (fun fu v t => fX7_keptBy_b5 h S (s : Int) d fu t v) some (c 2).toNat (fun i => ssm i s (fun j => keepS c (j : Int) d)) (by omega) ?_ ?_ 0 (by omega)
  · exact this
  · intro fu i hi
    have e5 : WE ((i : Int) + 1) := we (by omega) (by omega)
    have b2 := kb_bd w hd s (i + 1) (by omega)
    obtain ⟨f1, f2, f3, f4, f5, f6, f7, f8⟩ := v.jar w (j := (i : Int)) (by omega) (by omega)
    have wj := w.wj (j := (i : Int)) (by omega) (by omega)
    show fX7_keptBy_b5 h S (s : Int) d (fu + 1) (ssm i s (fun j => keepS c (j : Int) d)) (i : Int) = fX7_keptBy_b5 h S (s : Int) d fu (ssm (i + 1) s (fun j => keepS c (j : Int) d)) _
    rw [ssm_s] at b2 ⊢
    rw [fX7_keptBy_b5.eq_2, v7]
    refine gdg kS (iteT (by omega) (bdg (xIsIn hs (by omega)) ?_))
    unfold b01
    by_cases q : s.testBit i = true
    · rw [if_pos q] at b2
      rw [if_pos q, if_pos q]
      refine iteF (by omega) (nng f2 (gdg f3 (gdg f4 (nng f5 (gdg f6 (bdg (xKeep f6 f7 wj hd hd2) ?_))))))
      rw [lt_d, fX7_keptBy_b37, lt_d, e5.e, w32_id (by omega) (by omega)]
    · rw [if_neg q, if_neg q, Int.add_zero]
      refine iteT rfl ?_
      rw [fX7_keptBy_b37, lt_d, e5.e]
  · intro fu
    show fX7_keptBy_b5 h S (s : Int) d (fu + 1) _ ((c 2).toNat : Int) = _
    rw [fX7_keptBy_b5.eq_2, v7]
    exact gdg kS (iteF (by omega) rfl)
set_option maxHeartbeats 200000 in
theorem rKeptBy {s : Nat} {c : Nat → Int} {d : Int} (w : WF c) (hs : s < 2147483648) (hd : 0 ≤ d) (hd2 : d < 1000000) : fX12_keptBy c (s : Int) d = some (kbS c s d) := by
  have hj := w.nj
  unfold fX12_keptBy kbS
  have := fg (S := Int) (fun fu v t => fX12_keptBy_b5 c (s : Int) d fu t v) some (c 2).toNat (fun i => ssm i s (fun j => keepS c (j : Int) d)) (by omega) ?_ ?_ 0 (by omega)
  · exact this
  · intro fu i hi
    have e5 : WE ((i : Int) + 1) := we (by omega) (by omega)
    have b2 := kb_bd w hd s (i + 1) (by omega)
    have b1 := kb_bd w hd s i (by omega)
    have wj := w.wj (j := (i : Int)) (by omega) (by omega)
    show fX12_keptBy_b5 c (s : Int) d (fu + 1) (ssm i s (fun j => keepS c (j : Int) d)) (i : Int) = fX12_keptBy_b5 c (s : Int) d fu (ssm (i + 1) s (fun j => keepS c (j : Int) d)) _
    rw [ssm_s] at b2 ⊢
    rw [fX12_keptBy_b5.eq_2]
    refine gdg (by omega) (iteT (show (i : Int) < c 2 by omega) (bdg (rHas hs (by omega)) ?_))
    unfold b01
    by_cases q : s.testBit i = true
    · rw [if_pos q] at b2
      rw [if_pos q, if_pos q]
      refine iteF (by omega) (bdg (rKeep wj (by omega) (by omega) hd hd2) ?_)
      rw [fX12_keptBy_b37, lt_d, lt_d, e5.e, w32_id (by omega) (by omega)]
    · rw [if_neg q, if_neg q, Int.add_zero]
      refine iteT rfl ?_
      rw [fX12_keptBy_b37, lt_d, lt_d, e5.e, Int.add_zero, w32_id (by omega) (by omega)]
  · intro fu
    show fX12_keptBy_b5 c (s : Int) d (fu + 1) _ ((c 2).toNat : Int) = _
    rw [fX12_keptBy_b5.eq_2]
    exact gdg (by omega) (iteF (show ¬ ((c 2).toNat : Int) < c 2 by omega) rfl)
/-- the COST of a set, or how many -/
def priS (c : Nat → Int) (s : Nat) (by' : Int) : Int := ssm (c 2).toNat s (fun j => if by' = 0 then 1 else c (164 + (j : Int)).toNat)
set_option maxHeartbeats 200000 in
theorem pri_bd {c : Nat → Int} (w : WF c) (s n : Nat) (hn : (n : Int) ≤ c 2) (by' : Int) : 0 ≤ ssm n s (fun j => if by' = 0 then 1 else c (164 + (j : Int)).toNat) ∧ ssm n s (fun j => if by' = 0 then 1 else c (164 + (j : Int)).toNat) ≤ 792 := by
  have hj := w.nj
  have := ssm_bd (n := n) (s := s) (f := fun j => if by' = 0 then 1 else c (164 + (j : Int)).toNat) (b := 99) (by omega) (fun j hj' => by
    have wj := (w.wj (j := (j : Int)) (by omega) (by omega)).2.2.2.1
    show 0 ≤ (if by' = 0 then 1 else c (164 + (j : Int)).toNat) ∧ (if by' = 0 then 1 else c (164 + (j : Int)).toNat) ≤ 99
    split <;> omega)
  omega
set_option maxHeartbeats 200000 in
theorem xPrice {h : Hp} {S s : Nat} {c : Nat → Int} {by' : Int} (v : SV h S c) (w : WF c) (hs : s < 2147483648) : fX7_priceOf h S (s : Int) by' = some (priS c s by') := by
  have hj := w.nj
  have kS : (hK h S).1 = 7 := by rw [v.1]
  have v7 : gI h 451 S = c 2 := v.2.2.2.2.2.2.1
  unfold fX7_priceOf priS
  have := fg (S := Int) (fun fu v t => fX7_priceOf_b5 h S (s : Int) by' fu t v) some (c 2).toNat (fun i => ssm i s (fun j => if by' = 0 then 1 else c (164 + (j : Int)).toNat)) (by omega) ?_ ?_ 0 (by omega)
  · exact this
  · intro fu i hi
    have e5 : WE ((i : Int) + 1) := we (by omega) (by omega)
    have b2 := pri_bd w s (i + 1) (by omega) by'
    obtain ⟨f1, f2, f3, f4, f5, f6, f7, f8⟩ := v.jar w (j := (i : Int)) (by omega) (by omega)
    show fX7_priceOf_b5 h S (s : Int) by' (fu + 1) (ssm i s (fun j => if by' = 0 then 1 else c (164 + (j : Int)).toNat)) (i : Int) = fX7_priceOf_b5 h S (s : Int) by' fu (ssm (i + 1) s (fun j => if by' = 0 then 1 else c (164 + (j : Int)).toNat)) _
    rw [ssm_s] at b2 ⊢
    rw [fX7_priceOf_b5.eq_2, v7]
    refine gdg kS (iteT (by omega) (bdg (xIsIn hs (by omega)) ?_))
    unfold b01
    by_cases q : s.testBit i = true
    · rw [if_pos q] at b2
      rw [if_pos q, if_pos q]
      refine iteF (by omega) ?_
      by_cases q2 : by' = 0
      · rw [if_pos q2] at b2
        rw [if_pos q2, if_pos q2]
        rw [fX7_priceOf_b42, lt_d, fX7_priceOf_b44, lt_d, e5.e, w32_id (by omega) (by omega)]
      · rw [if_neg q2] at b2
        rw [if_neg q2, if_neg q2]
        refine nng f2 (gdg f3 (gdg f4 (nng f5 (gdg f6 ?_))))
        rw [f7.2.2.2.1, fX7_priceOf_b42, lt_d, fX7_priceOf_b44, lt_d, e5.e, w32_id (by omega) (by omega)]
    · rw [if_neg q, if_neg q, Int.add_zero]
      refine iteT rfl ?_
      rw [fX7_priceOf_b44, lt_d, e5.e]
  · intro fu
    show fX7_priceOf_b5 h S (s : Int) by' (fu + 1) _ ((c 2).toNat : Int) = _
    rw [fX7_priceOf_b5.eq_2, v7]
    exact gdg kS (iteF (by omega) rfl)
set_option maxHeartbeats 200000 in
theorem rCost {s : Nat} {c : Nat → Int} (w : WF c) (hs : s < 2147483648) : fX12_costOf c (s : Int) = some (priS c s 1) := by
  have hj := w.nj
  unfold fX12_costOf priS
  have := fg (S := Int) (fun fu v t => fX12_costOf_b4 c (s : Int) fu t v) some (c 2).toNat (fun i => ssm i s (fun j => if (1 : Int) = 0 then 1 else c (164 + (j : Int)).toNat)) (by omega) ?_ ?_ 0 (by omega)
  · exact this
  · intro fu i hi
    have e5 : WE ((i : Int) + 1) := we (by omega) (by omega)
    have b2 := pri_bd w s (i + 1) (by omega) 1
    have b1 := pri_bd w s i (by omega) 1
    show fX12_costOf_b4 c (s : Int) (fu + 1) (ssm i s (fun j => if (1 : Int) = 0 then 1 else c (164 + (j : Int)).toNat)) (i : Int) = fX12_costOf_b4 c (s : Int) fu (ssm (i + 1) s (fun j => if (1 : Int) = 0 then 1 else c (164 + (j : Int)).toNat)) _
    rw [ssm_s] at b2 ⊢
    rw [fX12_costOf_b4.eq_2, w32_id (x := 164 + (i : Int)) (by omega) (by omega)]
    refine gdg (by omega) (iteT (show (i : Int) < c 2 by omega) (bdg (rHas hs (by omega)) ?_))
    unfold b01
    by_cases q : s.testBit i = true
    · have e1 : (if (1 : Int) = 0 then (1 : Int) else c (164 + (i : Int)).toNat) = c (164 + (i : Int)).toNat := if_neg (by omega)
      rw [if_pos q, e1] at b2
      rw [if_pos q, if_pos q, e1]
      refine iteF (by omega) (gdg (by omega) ?_)
      rw [fX12_costOf_b37, lt_d, lt_d, e5.e, w32_id (by omega) (by omega)]
    · rw [if_neg q, if_neg q, Int.add_zero]
      refine iteT rfl ?_
      rw [fX12_costOf_b37, lt_d, lt_d, e5.e, Int.add_zero, w32_id (by omega) (by omega)]
  · intro fu
    show fX12_costOf_b4 c (s : Int) (fu + 1) _ ((c 2).toNat : Int) = _
    rw [fX12_costOf_b4.eq_2]
    exact gdg (by omega) (iteF (show ¬ ((c 2).toNat : Int) < c 2 by omega) rfl)
/-! how many sets there are -/
set_option maxHeartbeats 200000 in
theorem pw8 {c : Nat → Int} (w : WF c) : 0 < 2 ^ (c 2).toNat ∧ 2 ^ (c 2).toNat ≤ 256 := by
  have hj := w.nj
  exact ⟨Nat.pow_pos (by omega), show 2 ^ (c 2).toNat ≤ 2 ^ 8 from Nat.pow_le_pow_right (by omega) (by omega)⟩
set_option maxHeartbeats 200000 in
theorem shl_n {m : Int} (h0 : 0 ≤ m) (h8 : m ≤ 8) : shl 1 m = ((2 ^ m.toNat : Nat) : Int) := by
  obtain ⟨k, rfl⟩ := i2n h0
  rw [shl_1 (by omega)]; simp
set_option maxHeartbeats 200000 in
theorem xAllJ {h : Hp} {S : Nat} {c : Nat → Int} (v : SV h S c) (w : WF c) : fX7_allJars h S = some (((2 ^ (c 2).toNat : Nat) : Int) - 1) := by
  have hj := w.nj
  have p := pw8 w
  unfold fX7_allJars
  rw [v.2.2.2.2.2.2.1, shl_n hj.1 hj.2]
  generalize 2 ^ (c 2).toNat = N at p ⊢
  rw [w32_id (by omega) (by omega)]
  exact gdg (by rw [v.1]) rfl
/-- the least of the first sets that suit, by price: -1 for none -/
def lsF (ok : Nat → Bool) (pr : Nat → Int) : Nat → Int
  | 0 => -1
  | i + 1 => if ok i && (decide (lsF ok pr i < 0) || decide (pr i < pr (lsF ok pr i).toNat)) then (i : Int) else lsF ok pr i
set_option maxHeartbeats 200000 in
theorem lsF_bd (ok : Nat → Bool) (pr : Nat → Int) (i : Nat) : -1 ≤ lsF ok pr i ∧ lsF ok pr i < i := by
  induction i with
  | zero => exact ⟨Int.le_refl _, by show (-1 : Int) < _; omega⟩
  | succ i ih =>
    show -1 ≤ (if ok i && (decide (lsF ok pr i < 0) || decide (pr i < pr (lsF ok pr i).toNat)) then (i : Int) else lsF ok pr i) ∧ (if ok i && (decide (lsF ok pr i < 0) || decide (pr i < pr (lsF ok pr i).toNat)) then (i : Int) else lsF ok pr i) < ((i + 1 : Nat) : Int)
    split <;> omega
def lsOk (c : Nat → Int) (m d : Int) (s : Nat) : Bool := decide (m ≤ kbS c s d)
def lsS (c : Nat → Int) (m d by' : Int) : Int := lsF (lsOk c m d) (fun s => priS c s by') (2 ^ (c 2).toNat)
set_option maxHeartbeats 200000 in
theorem xLeast {h : Hp} {S : Nat} {c : Nat → Int} {m d by' : Int} (v : SV h S c) (w : WF c) (hd : 0 ≤ d) (hd2 : d < 1000000) : fX7_leastSet h S m d by' = some (lsS c m d by') := by
  have p := pw8 w
  have hj := w.nj
  have kS : (hK h S).1 = 7 := by rw [v.1]
  have aj := xAllJ v w
  unfold fX7_leastSet lsS
  generalize 2 ^ (c 2).toNat = N at p aj ⊢
  have := fg (S := Int × Int) (fun fu v t => fX7_leastSet_b10 h S m d by' fu t.1 t.2 v) (fun t => some t.1) N (fun i => (lsF (lsOk c m d) (fun s => priS c s by') i, if lsF (lsOk c m d) (fun s => priS c s by') i < 0 then 1000000 else priS c (lsF (lsOk c m d) (fun s => priS c s by') i).toNat by')) (by omega) ?_ ?_ 0 (by omega)
  · exact this
  · intro fu i hi
    have e5 : WE ((i : Int) + 1) := we (by omega) (by omega)
    have b1 := pri_bd w i (c 2).toNat (by omega) by'
    show fX7_leastSet_b10 h S m d by' (fu + 1) (lsF (lsOk c m d) (fun s => priS c s by') i) (if lsF (lsOk c m d) (fun s => priS c s by') i < 0 then 1000000 else priS c (lsF (lsOk c m d) (fun s => priS c s by') i).toNat by') (i : Int) = fX7_leastSet_b10 h S m d by' fu (lsF (lsOk c m d) (fun s => priS c s by') (i + 1)) (if lsF (lsOk c m d) (fun s => priS c s by') (i + 1) < 0 then 1000000 else priS c (lsF (lsOk c m d) (fun s => priS c s by') (i + 1)).toNat by') _
    have eu : lsF (lsOk c m d) (fun s => priS c s by') (i + 1) = if lsOk c m d i && (decide (lsF (lsOk c m d) (fun s => priS c s by') i < 0) || decide (priS c i by' < priS c (lsF (lsOk c m d) (fun s => priS c s by') i).toNat by')) then (i : Int) else lsF (lsOk c m d) (fun s => priS c s by') i := rfl
    generalize lsF (lsOk c m d) (fun s => priS c s by') i = B at eu ⊢
    generalize lsF (lsOk c m d) (fun s => priS c s by') (i + 1) = B' at eu ⊢
    rw [fX7_leastSet_b10.eq_2]
    refine gdg kS (bdg aj (iteT (by omega) (bdg (xPrice v w (by omega)) ?_)))
    have hb : (priS c i by' < (if B < 0 then 1000000 else priS c B.toNat by')) ↔ (B < 0 ∨ priS c i by' < priS c B.toNat by') := by
      unfold priS at b1 ⊢
      by_cases q : B < 0
      · rw [if_pos q]; exact ⟨fun _ => Or.inl q, fun _ => by omega⟩
      · rw [if_neg q]; exact ⟨fun z => Or.inr z, fun z => z.resolve_left q⟩
    by_cases q1 : priS c i by' < (if B < 0 then 1000000 else priS c B.toNat by')
    · refine iteT q1 (bdg (xKeptBy v w (by omega) hd hd2) ?_)
      by_cases q2 : m ≤ kbS c i d
      · have e : B' = (i : Int) := by
          rw [eu, if_pos]
          unfold lsOk
          rcases hb.mp q1 with z | z <;> simp [q2, z]
        refine iteF (by omega) ?_
        rw [fX7_leastSet_b54, lt_d, e5.e, e, if_neg (by omega)]
        simp
      · have e : B' = B := by
          rw [eu, if_neg]
          unfold lsOk
          simp [q2]
        refine iteT (by omega) ?_
        rw [fX7_leastSet_b54, lt_d, e5.e, e]
    · have e : B' = B := by
        rw [eu, if_neg]
        intro z
        simp only [Bool.and_eq_true, Bool.or_eq_true, decide_eq_true_eq] at z
        exact q1 (hb.mpr z.2)
      refine iteF q1 ?_
      rw [fX7_leastSet_b54, lt_d, e5.e, e]
  · intro fu
    show fX7_leastSet_b10 h S m d by' (fu + 1) _ _ (N : Int) = _
    rw [fX7_leastSet_b10.eq_2]
    exact gdg kS (bdg aj (iteF (by omega) rfl))
