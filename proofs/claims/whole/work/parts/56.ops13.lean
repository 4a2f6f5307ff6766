/-! ODDS (written by wip/whole/g56.py) -/
def odS (c : Nat → Int) (s a3 : Int) (n m : Nat) : Int := sm m (fun i => if (trS c (a3 + (i : Int)) n).1 &&& spkS c s = 0 then 0 else 1)
set_option maxHeartbeats 200000 in
theorem odS_bd (c : Nat → Int) (s a3 : Int) (n m : Nat) : 0 ≤ odS c s a3 n m ∧ odS c s a3 n m ≤ m := by
  have := sm_bd (n := m) (f := fun i => if (trS c (a3 + (i : Int)) n).1 &&& spkS c s = 0 then 0 else 1) (a := 0) (b := 1) (fun k _ => by
    show 0 ≤ (if (trS c (a3 + (k : Int)) n).1 &&& spkS c s = 0 then (0 : Int) else 1) ∧ (if (trS c (a3 + (k : Int)) n).1 &&& spkS c s = 0 then (0 : Int) else 1) ≤ 1
    split <;> omega)
  unfold odS
  omega
set_option maxHeartbeats 200000 in
theorem trS_lt {c : Nat → Int} (w : WF c) (z : Int) (n : Nat) : (trS c z n).1 < 256 := by
  have pw := pw8 w
  have := trD_le c n (2 ^ (c 2).toNat - 1, z, fun _ => 0)
  have : (trS c z n).1 ≤ 2 ^ (c 2).toNat - 1 := this
  omega
set_option maxHeartbeats 200000 in
/-- the class's loop of odds -/
theorem xOdL {h : Hp} {X S n m : Nat} {c : Nat → Int} {s a3 : Int} (H : CX h X c) (f1 : gR h 717 X = some S) (so : SO X S) (n8 : n ≤ 30) (m8 : m ≤ 20) (a0 : 0 ≤ a3) (a8 : a3 ≤ 9999) :
    ∃ t : Hp, (QX X h t ∧ CX t X c) ∧ fX11_odds_b82 X s (n : Int) a3 (m : Int) FU h ((spkS c s : Nat) : Int) 0 0 = bd (fX11_tellFraction t X (odS c s a3 n m) (m : Int)) fun h5 => gd ((hK h5 X).1 = 11) <| bd2 (fX11_allow h5 X) fun r7 h9 => some (r7, h9) := by
  have w := H.wf
  have hj := w.nj
  have pw := pw8 w
  have sx : ¬ sc X X := by unfold sc; omega
  have sl : spkS c s < 2147483648 := by
    have := bs_lt (c 2).toNat (fun j => decide (0 < plS c (j : Int) s))
    unfold spkS
    omega
  exact fk (S := Hp × Int) (T := Hp) (fun fu v t => fX11_odds_b82 X s (n : Int) a3 (m : Int) fu t.1 ((spkS c s : Nat) : Int) t.2 v) (fun t => bd (fX11_tellFraction t X (odS c s a3 n m) (m : Int)) fun h5 => gd ((hK h5 X).1 = 11) <| bd2 (fX11_allow h5 X) fun r7 h9 => some (r7, h9)) m
    (fun i t => QX X h t.1 ∧ CX t.1 X c ∧ t.2 = odS c s a3 n i) (fun t => QX X h t ∧ CX t X c) 0 (h, 0) (by omega) ⟨QR.rf h, H, rfl⟩ (by omega)
    (fun fu i t hi hI => by
      obtain ⟨h1, v⟩ := t
      obtain ⟨p1, p2, p3⟩ := hI
      have p1 : QX X h h1 := p1
      have p2 : CX h1 X c := p2
      have p3 : v = odS c s a3 n i := p3
      have e5 : WE ((i : Int) + 1) := we (by omega) (by omega)
      have e6 : WE (a3 + (i : Int)) := we (by omega) (by omega)
      have ob := odS_bd c s a3 n i
      have e7 : WE (odS c s a3 n i + 1) := we (by omega) (by omega)
      have es : odS c s a3 n (i + 1) = odS c s a3 n i + (if (trS c (a3 + (i : Int)) n).1 &&& spkS c s = 0 then 0 else 1) := rfl
      obtain ⟨S', u1, u2, u3, u4, u5, u6⟩ := p2.shop
      have eS : some S' = some S := by rw [← u1, ← f1]; exact p1.r sx
      cases eS
      obtain ⟨t', ⟨y1, y2⟩, y3⟩ := xTrv (h := h1) (S := S) (T := X + 103) (n := n) (a1 := a3 + (i : Int)) u3 w p2.1.k103 (by unfold SO at so; omega) n8
      have qq : QX X h1 t' := q_on y1 (fun b hb => by rw [hb]; unfold sc; omega)
      have ba := bnd_n' (a := (trS c (a3 + (i : Int)) n).1) (b := spkS c s) sl
      left
      refine ⟨(t', odS c s a3 n (i + 1)), ⟨p1.tr qq, p2.q qq po_X, rfl⟩, ?_⟩
      show fX11_odds_b82 X s (n : Int) a3 (m : Int) (fu + 1) h1 ((spkS c s : Nat) : Int) v (i : Int) = fX11_odds_b82 X s (n : Int) a3 (m : Int) fu t' ((spkS c s : Nat) : Int) (odS c s a3 n (i + 1)) ((i : Int) + 1)
      have e114 : ∀ z, fX11_odds_b114 X s (n : Int) a3 (m : Int) (fX11_odds_b82 X s (n : Int) a3 (m : Int) fu) t' ((spkS c s : Nat) : Int) z (i : Int) = fX11_odds_b82 X s (n : Int) a3 (m : Int) fu t' ((spkS c s : Nat) : Int) z ((i : Int) + 1) := fun z => by rw [fX11_odds_b114, lt_d, e5.e]
      rw [fX11_odds_b82.eq_2, p3, e6.e, ← e114]
      refine iteT (by omega) (gdg p2.k (nng u1 (nng p2.1.r714 (gdg u2 (bd2g y3 ?_)))))
      rw [ba, es]
      by_cases q : (trS c (a3 + (i : Int)) n).1 &&& spkS c s = 0
      · rw [if_pos q]
        refine iteT (by omega) ?_
        rw [Int.add_zero]
      · rw [if_neg q]
        refine iteF (by omega) ?_
        rw [lt_d, e7.e])
    (fun fu t hI => by
      obtain ⟨h1, v⟩ := t
      obtain ⟨p1, p2, p3⟩ := hI
      have p2 : CX h1 X c := p2
      have p3 : v = odS c s a3 n m := p3
      refine ⟨h1, ⟨p1, p2⟩, ?_⟩
      show fX11_odds_b82 X s (n : Int) a3 (m : Int) (fu + 1) h1 ((spkS c s : Nat) : Int) v (m : Int) = _
      rw [fX11_odds_b82.eq_2, p3]
      exact iteF (by omega) (gdg p2.k rfl))

set_option maxHeartbeats 200000 in
theorem and_bs0 {s n : Nat} {P : Nat → Bool} : s &&& bs n P = 0 ↔ ∀ k, k < n → (s.testBit k && P k) = false := by
  constructor
  · intro h k hk
    have := congrArg (fun x => Nat.testBit x k) h
    simp only [Nat.testBit_and, bs_tb, Nat.zero_testBit, show decide (k < n) = true from decide_eq_true hk, Bool.true_and] at this
    exact this
  · intro h
    apply Nat.eq_of_testBit_eq
    intro k
    rw [Nat.testBit_and, bs_tb, Nat.zero_testBit]
    by_cases z : k < n
    · have := h k z
      simp only [show decide (k < n) = true from decide_eq_true z, Bool.true_and]
      exact this
    · simp [z]
set_option maxHeartbeats 200000 in
theorem and_bsS {s n : Nat} {P : Nat → Bool} : s &&& bs (n + 1) P = 0 ↔ (s &&& bs n P = 0 ∧ (s.testBit n && P n) = false) := by
  rw [and_bs0, and_bs0]
  constructor
  · intro h
    exact ⟨fun k hk => h k (by omega), h n (by omega)⟩
  · intro h k hk
    rcases Nat.lt_succ_iff_lt_or_eq.mp hk with z | z
    · exact h.1 k z
    · rw [z]; exact h.2
set_option maxHeartbeats 200000 in
/-- does one of the whole jars speak -/
theorem rOdJ {h : Hp} {M W : Nat} {c : Nat → Int} {s a2 a3 a4 v5 v6 : Int} (ms : MS h M) (hc : gA h (M + 5) = c) (w : WF c) (s0 : 0 ≤ s) (s8 : s < 8) (w8 : W < 256) (b5 : 0 ≤ v5 ∧ v5 ≤ 1000) (b6 : 0 ≤ v6 ∧ v6 ≤ 1000) (k77 : Hp → Int → Int → Option (Int × Hp)) :
    fX12_odds_b101 M s a2 a3 a4 k77 FU h v5 v6 (W : Int) 0 0 = k77 h (v5 + (if W &&& spkS c s = 0 then 0 else 1)) (v6 + 1) := by
  have hj := w.nj
  have e6 : WE (v6 + 1) := we (by omega) (by omega)
  refine (fke (S := Int) (fun fu j f => fX12_odds_b101 M s a2 a3 a4 k77 fu h v5 v6 (W : Int) f j) (fun (z : Option (Int × Hp)) => z) (c 2).toNat (fun i f => f = if W &&& bs i (fun j => decide (0 < plS c (j : Int) s)) = 0 then 0 else 1) (k77 h (v5 + (if W &&& spkS c s = 0 then 0 else 1)) (v6 + 1)) 0 0 (by omega) ?_ (by omega) ?_ ?_ : _)
  · show (0 : Int) = if W &&& 0 = 0 then 0 else 1
    rw [if_pos (Nat.and_zero W)]
  · intro fu j f hi hI
    have e5 : WE ((j : Int) + 1) := we (by omega) (by omega)
    left
    refine ⟨_, rfl, ?_⟩
    have st := and_bsS (s := W) (n := j) (P := fun j => decide (0 < plS c (j : Int) s))
    show fX12_odds_b101 M s a2 a3 a4 k77 (fu + 1) h v5 v6 (W : Int) f (j : Int) = fX12_odds_b101 M s a2 a3 a4 k77 fu h v5 v6 (W : Int) (if W &&& bs (j + 1) (fun j => decide (0 < plS c (j : Int) s)) = 0 then 0 else 1) ((j : Int) + 1)
    have e142 : ∀ z, fX12_odds_b142 M s a2 a3 a4 k77 (fX12_odds_b101 M s a2 a3 a4 k77 fu) h v5 v6 (W : Int) (j : Int) z = fX12_odds_b101 M s a2 a3 a4 k77 fu h v5 v6 (W : Int) z ((j : Int) + 1) := fun z => by rw [fX12_odds_b142, lt_d, e5.e]
    rw [fX12_odds_b101.eq_2, hI, ← e142]
    refine gdg ms.k (nng ms.r788 (gdg (by rw [ms.k5]) (gdg (by rw [ms.k5]; show 0 ≤ _ ∧ _ < (1850 : Int); omega) ?_)))
    rw [hc, show ((2 : Int)).toNat = 2 from rfl]
    refine iteT (by omega) ?_
    by_cases q : W &&& bs j (fun j => decide (0 < plS c (j : Int) s)) = 0
    · rw [if_pos q]
      refine iteT rfl (bdg (rHas (by omega) (by omega)) ?_)
      by_cases q2 : W.testBit j = true
      · rw [q2]
        refine iteF (by unfold b01; rw [if_pos rfl]; omega) (gdg ms.k5 (bdg (rPl w (by omega) (by omega) s0 s8) ?_))
        by_cases q3 : 0 < plS c (j : Int) s
        · refine iteT q3 ?_
          rw [fX12_odds_b137, if_neg (fun z => by have := (st.mp z).2; simp [q2, q3] at this)]
        · refine iteF q3 ?_
          rw [fX12_odds_b141, if_pos (st.mpr ⟨q, by simp [q3]⟩)]
      · have q2' : W.testBit j = false := by simpa using q2
        rw [q2', if_pos (st.mpr ⟨q, by simp [q2']⟩)]
        refine iteT (by unfold b01; rw [if_neg (by simp)]) ?_
        rw [fX12_odds_b141]
    · rw [if_neg q, if_neg (fun z => q (st.mp z).1)]
      refine iteF (by omega) ?_
      rw [fX12_odds_b137]
  · intro fu f hI
    show fX12_odds_b101 M s a2 a3 a4 k77 (fu + 1) h v5 v6 (W : Int) f ((c 2).toNat : Int) = _
    rw [fX12_odds_b101.eq_2, hI]
    refine gdg ms.k (nng ms.r788 (gdg (by rw [ms.k5]) (gdg (by rw [ms.k5]; show 0 ≤ _ ∧ _ < (1850 : Int); omega) ?_)))
    rw [hc, show ((2 : Int)).toNat = 2 from rfl]
    refine iteF (by omega) ?_
    rw [lt_d, lt_d, e6.e]
    unfold spkS
    by_cases q : W &&& bs (c 2).toNat (fun j => decide (0 < plS c (j : Int) s)) = 0
    · rw [if_pos q, if_pos rfl, w32_id (by omega) (by omega)]
    · rw [if_neg q, if_neg (by omega), w32_id (by omega) (by omega)]

set_option maxHeartbeats 200000 in
/-- the reference's loop of odds -/
theorem rOdL {h : Hp} {X n m : Nat} {c : Nat → Int} {s a3 : Int} (G : CM h X c) (w : WF c) (s0 : 0 ≤ s) (s8 : s < 8) (n8 : n ≤ 30) (m8 : m ≤ 20) (a0 : 0 ≤ a3) (a8 : a3 ≤ 9999) :
    ∃ t : Hp, (QM X h t ∧ gI t 768 (X + 121) = gI h 768 (X + 121)) ∧ fX12_odds_b77 (X + 121) s (n : Int) a3 (m : Int) FU h 0 0 = bd2 (fX12_fraction t (X + 121) (odS c s a3 n m) (m : Int)) fun r3 h5 => some (r3, h5) := by
  exact fk (S := Hp × Int) (T := Hp) (fun fu v t => fX12_odds_b77 (X + 121) s (n : Int) a3 (m : Int) fu t.1 t.2 v) (fun t => bd2 (fX12_fraction t (X + 121) (odS c s a3 n m) (m : Int)) fun r3 h5 => some (r3, h5)) m
    (fun i t => QM X h t.1 ∧ gI t.1 768 (X + 121) = gI h 768 (X + 121) ∧ t.2 = odS c s a3 n i) (fun t => QM X h t ∧ gI t 768 (X + 121) = gI h 768 (X + 121)) 0 (h, 0) (by omega) ⟨QR.rf h, rfl, rfl⟩ (by omega)
    (fun fu i t hi hI => by
      obtain ⟨h1, v⟩ := t
      obtain ⟨p1, p2, p3⟩ := hI
      have p1 : QM X h h1 := p1
      have p2 : gI h1 768 (X + 121) = gI h 768 (X + 121) := p2
      have p3 : v = odS c s a3 n i := p3
      have e6 : WE (a3 + (i : Int)) := we (by omega) (by omega)
      have ob := odS_bd c s a3 n i
      have ms0 := (G.q p1).1
      obtain ⟨t', ⟨y1, y5, y2⟩, y3⟩ := rTrv (n := n) (a1 := a3 + (i : Int)) (G.q p1) w n8 ⟨by omega, by omega⟩
      obtain ⟨ms, hc, -⟩ := G.q (p1.tr y1)
      left
      refine ⟨(t', odS c s a3 n (i + 1)), ⟨p1.tr y1, y5.trans p2, rfl⟩, ?_⟩
      show fX12_odds_b77 (X + 121) s (n : Int) a3 (m : Int) (fu + 1) h1 v (i : Int) = fX12_odds_b77 (X + 121) s (n : Int) a3 (m : Int) fu t' (odS c s a3 n i + (if (trS c (a3 + (i : Int)) n).1 &&& spkS c s = 0 then 0 else 1)) ((i : Int) + 1)
      rw [fX12_odds_b77.eq_2, p3, e6.e]
      refine iteT (by omega) (gdg ms0.k (bd2g y3 ?_))
      rw [rOdJ ms hc w s0 s8 (trS_lt w _ _) (by omega) (by omega) (fX12_odds_b77 (X + 121) s (n : Int) a3 (m : Int) fu)])
    (fun fu t hI => by
      obtain ⟨h1, v⟩ := t
      obtain ⟨p1, p2, p3⟩ := hI
      have p3 : v = odS c s a3 n m := p3
      have ms0 := (G.q p1).1
      refine ⟨h1, ⟨p1, p2⟩, ?_⟩
      show fX12_odds_b77 (X + 121) s (n : Int) a3 (m : Int) (fu + 1) h1 v (m : Int) = _
      rw [fX12_odds_b77.eq_2, p3]
      exact iteF (by omega) (gdg ms0.k rfl))
