/-! CHAINS, in the reference: the search -/
set_option maxHeartbeats 200000 in
theorem imxR {a b : Int} (h : a ≤ b) : max a b = b := by omega
set_option maxHeartbeats 200000 in
theorem imxL {a b : Int} (h : b ≤ a) : max a b = a := by omega
set_option maxHeartbeats 200000 in
theorem lt_sum {g d a b : Int} (h : ¬ g < d + a) (q : g < d + b) : a ≤ b := by omega
/-- what has been found: the longest, its jars -/
def ChA (h h' : Hp) (X : Nat) (lk : Nat → Nat) (P : Nat → Nat) (D u f n : Nat) : Prop :=
  (gI h 799 (X + 121) < (D : Int) + mz n (chV lk u f) → gI h' 799 (X + 121) = (D : Int) + mz n (chV lk u f) ∧ (∀ k, k < D → gA h' (X + 121 + 12) k = (P k : Int)) ∧ (0 < mz n (chV lk u f) → ∃ j, FstB lk u f n j ∧ gA h' (X + 121 + 12) D = (j : Int) ∧ ∀ k, ((k + 1 : Nat) : Int) < mz n (chV lk u f) → gA h' (X + 121 + 12) (D + 1 + k) = (chK lk k (u ||| 2 ^ j) (lk j) : Int))) ∧
  (¬ gI h 799 (X + 121) < (D : Int) + mz n (chV lk u f) → gI h' 799 (X + 121) = gI h 799 (X + 121) ∧ ∀ k, gA h' (X + 121 + 12) k = gA h (X + 121 + 12) k)
/-- what the search may change -/
def ChQ (h h' : Hp) (X D : Nat) : Prop := QM X h h' ∧ gI h' 768 (X + 121) = gI h 768 (X + 121) ∧ ∀ k, k < D → gA h' (X + 121 + 11) k = gA h (X + 121 + 11) k
set_option maxHeartbeats 200000 in
theorem ChQ.rf {h : Hp} {X D : Nat} : ChQ h h X D := ⟨QR.rf h, rfl, fun _ _ => rfl⟩
set_option maxHeartbeats 200000 in
theorem ChQ.tr {h h1 h2 : Hp} {X D D' : Nat} (p : ChQ h h1 X D) (q : ChQ h1 h2 X D') (l : D ≤ D') : ChQ h h2 X D := ⟨p.1.tr q.1, q.2.1.trans p.2.1, fun k hk => (q.2.2 k (by omega)).trans (p.2.2 k hk)⟩
set_option maxHeartbeats 200000 in
/-- the start of a search: a longer row is kept -/
theorem rCh0 {h : Hp} {X D : Nat} {c : Nat → Int} {u n : Int} {lk : Nat → Nat} {P : Nat → Nat} {uu f : Nat} (G : CM h X c) (D8 : D ≤ 8) (hP : ∀ k, k < D → gA h (X + 121 + 11) k = (P k : Int)) (rcf : Hp → Int → Int → Int → Option Hp) :
    ∃ t : Hp, (ChQ h t X D ∧ ChA h t X lk P D uu f 0) ∧ fX12_chainFrom_body (X + 121) rcf h (D : Int) u n = fX12_chainFrom_b45 (X + 121) rcf (D : Int) u n FU t 0 := by
  have ms := G.1
  unfold fX12_chainFrom_body
  have e0 : mz 0 (chV lk uu f) = 0 := rfl
  unfold ChA
  rw [e0, Int.add_zero]
  by_cases q : gI h 799 (X + 121) < (D : Int)
  · have key := fk (S := Hp) (T := Hp) (fun fu i t => fX12_chainFrom_b16 (X + 121) rcf (D : Int) u n fu t i) (fun t => fX12_chainFrom_b45 (X + 121) rcf (D : Int) u n FU t 0) D
      (fun i t => ChQ h t X D ∧ gI t 799 (X + 121) = (D : Int) ∧ (∀ k, gA t (X + 121 + 11) k = gA h (X + 121 + 11) k) ∧ ∀ k, k < i → gA t (X + 121 + 12) k = (P k : Int)) (fun t => ChQ h t X D ∧ gI t 799 (X + 121) = (D : Int) ∧ ∀ k, k < D → gA t (X + 121 + 12) k = (P k : Int)) 0 (pI h 799 (X + 121) (D : Int)) (by omega) ⟨⟨q_pI h ⟨rfl, by omega⟩, gI_n (by omega), fun _ _ => rfl⟩, gI_pIs (by unfold rg; omega), fun _ => rfl, fun k hk => absurd hk (by omega)⟩ (by omega)
      (fun fu i t hi hI => by
        obtain ⟨p1, p2, p3, p4⟩ := hI
        have e5 : WE ((i : Int) + 1) := we (by omega) (by omega)
        have mt := ms.q p1.1
        have rr : rg (P i : Int) := by have := hP i hi; rw [← this]; exact ti_rg _
        have q1 : QM X t (sA t (X + 121 + 12) (i : Int) (P i : Int)) := q_sA t (by unfold sc; omega)
        left
        refine ⟨sA t (X + 121 + 12) (i : Int) (P i : Int), ⟨⟨p1.1.tr q1, p1.2.1, fun k hk => ?_⟩, p2, fun k => ?_, fun k hk => ?_⟩, ?_⟩
        · rw [gA_sA, if_neg (by omega)]; exact p3 k
        · rw [gA_sA, if_neg (by omega)]; exact p3 k
        · rw [gA_sA]
          by_cases y : k = i
          · rw [if_pos ⟨rfl, by omega⟩, w32_of rr, y]
          · rw [if_neg (fun zz => y (by have := zz.2; omega))]; exact p4 k (by omega)
        · show fX12_chainFrom_b16 (X + 121) rcf (D : Int) u n (fu + 1) t (i : Int) = fX12_chainFrom_b16 (X + 121) rcf (D : Int) u n fu (sA t (X + 121 + 12) (i : Int) (P i : Int)) ((i : Int) + 1)
          rw [fX12_chainFrom_b16.eq_2]
          refine iteT (by omega) (gdg mt.k (nng mt.r797 (nng mt.r796 (gdg (by rw [mt.k11]) (gdg (by rw [mt.k11]; show 0 ≤ _ ∧ _ < (8 : Int); omega) (gdg (by rw [mt.k12]) (gdg (by rw [mt.k12]; show 0 ≤ _ ∧ _ < (8 : Int); omega) ?_)))))))
          rw [lt_d, lt_d, e5.e, show ((i : Int)).toNat = i from rfl, p3, hP i hi])
      (fun fu t hI => by
        obtain ⟨p1, p2, p3, p4⟩ := hI
        refine ⟨t, ⟨p1, p2, p4⟩, ?_⟩
        show fX12_chainFrom_b16 (X + 121) rcf (D : Int) u n (fu + 1) t (D : Int) = _
        rw [fX12_chainFrom_b16.eq_2]
        exact iteF (by omega) rfl)
    obtain ⟨t, ⟨h1, h2, h3⟩, h4⟩ := key
    refine ⟨t, ⟨h1, fun _ => ⟨h2, h3, fun z => absurd z (by omega)⟩, fun z => absurd q z⟩, ?_⟩
    refine gdg ms.k (iteF (by omega) ?_)
    rw [lt_d]
    exact h4
  · refine ⟨h, ⟨ChQ.rf, fun z => absurd z q, fun _ => ⟨rfl, fun _ => rfl⟩⟩, ?_⟩
    exact gdg ms.k (iteT (by omega) rfl)
set_option maxHeartbeats 2000000 in
theorem rChF {X : Nat} {c : Nat → Int} {n : Int} : ∀ (d : Nat) (h : Hp) (D u f : Nat) (P : Nat → Nat), CM h X c → D ≤ 8 → 9 ≤ d + D → u < 256 → Sub u (alA c) → bcu u = D → (∀ k, k < D → gA h (X + 121 + 11) k = (P k : Int)) →
    (f = if D = 0 then alA c else lkS c n (P (D - 1))) → (0 < D → P (D - 1) < (c 2).toNat ∧ u.testBit (P (D - 1)) = true) →
    ∃ t : Hp, (ChQ h t X D ∧ ChA h t X (lkS c n) P D u f 8) ∧ fX12_chainFrom d h (X + 121) (D : Int) (u : Int) n = some t := by
  intro d
  induction d with
  | zero => intro h D u f P _ h1 h2; omega
  | succ d ih =>
    intro h D u f P G D8 hd u8 su bu hP hf hl
    have w := G.2.2
    have nj := w.nj
    have al8 := alA_lt w
    have f8 : f < 256 := by
      rw [hf]; split
      · exact al8
      · exact (lkS_ok w n _).1
    have fA : Sub f (alA c) := by
      rw [hf]; split
      · exact fun j hj => hj
      · exact (lkS_ok w n _).2
    obtain ⟨t0, ⟨q0, a0⟩, e0⟩ := rCh0 (u := (u : Int)) (n := n) (lk := lkS c n) (uu := u) (f := f) G D8 hP (fun h a1 a2 a3 => fX12_chainFrom d h (X + 121) a1 a2 a3)
    have key := fk (S := Hp) (T := Hp) (fun fu i t => fX12_chainFrom_b45 (X + 121) (fun h a1 a2 a3 => fX12_chainFrom d h (X + 121) a1 a2 a3) (D : Int) (u : Int) n fu t i) some (c 2).toNat
      (fun i t => ChQ h t X D ∧ ChA h t X (lkS c n) P D u f i) (fun t => ChQ h t X D ∧ ChA h t X (lkS c n) P D u f 8) 0 t0 (by omega) ⟨q0, a0⟩ (by omega)
      (fun fu i t hi hI => by
        obtain ⟨p1, p2⟩ := hI
        have e5 : WE ((i : Int) + 1) := we (by omega) (by omega)
        obtain ⟨mt, hc, -⟩ := G.q p1.1
        have l2 : inA 2 (hK t (X + 121 + 5)).2 := by rw [mt.k5]; show 0 ≤ (2 : Int) ∧ (2 : Int) < 1850; omega
        have ib := rHas (s := u) (k := i) (by omega) (by omega)
        have tP : ∀ k, k < D → gA t (X + 121 + 11) k = (P k : Int) := fun k hk => by rw [p1.2.2 k hk]; exact hP k hk
        have e112 : ∀ t', fX12_chainFrom_b112 (X + 121) (fun h a1 a2 a3 => fX12_chainFrom d h (X + 121) a1 a2 a3) (D : Int) (u : Int) n (fX12_chainFrom_b45 (X + 121) (fun h a1 a2 a3 => fX12_chainFrom d h (X + 121) a1 a2 a3) (D : Int) (u : Int) n fu) t' (i : Int) = fX12_chainFrom_b45 (X + 121) (fun h a1 a2 a3 => fX12_chainFrom d h (X + 121) a1 a2 a3) (D : Int) (u : Int) n fu t' ((i : Int) + 1) := fun t' => by rw [fX12_chainFrom_b112, lt_d, e5.e]
        -- what a jar that can't stand here changes
        have skip : inB f u i = false → ChA h t X (lkS c n) P D u f (i + 1) := by
          intro hb
          have m0 := (mz_ge (n := i) (f := chV (lkS c n) u f)).1
          have em : mz (i + 1) (chV (lkS c n) u f) = mz i (chV (lkS c n) u f) := by
            show max (mz i (chV (lkS c n) u f)) (chV (lkS c n) u f i) = _
            rw [chV_out hb]; omega
          unfold ChA at p2 ⊢
          rw [em]
          refine ⟨fun z => ?_, p2.2⟩
          obtain ⟨z1, z2, z3⟩ := p2.1 z
          refine ⟨z1, z2, fun z4 => ?_⟩
          obtain ⟨j, j1, j2, j3⟩ := z3 z4
          exact ⟨j, fst_no j1 (by rw [chV_out hb]; exact m0), j2, j3⟩
        have head : ∀ r, (if (i : Int) < c 2 then r else some t) = r := fun r => if_pos (by omega)
        -- is it one that may stand here
        have cand : inB f u i = (!u.testBit i && (decide (D = 0) || decide (n ≤ lapS c (P (D - 1) : Int) (i : Int)))) := by
          unfold inB
          by_cases y : D = 0
          · rw [hf, if_pos y, alA_tb, decide_eq_true hi, decide_eq_true y, Bool.true_and, Bool.true_or, Bool.and_true]
          · have y2 := (hl (by omega)).2
            rw [hf, if_neg y, lkS_tb, decide_eq_true hi, decide_eq_false y, Bool.true_and, Bool.false_or]
            cases q : u.testBit i with
            | true => cases (!(i == P (D - 1)) && decide (n ≤ lapS c (P (D - 1) : Int) (i : Int))) <;> rfl
            | false =>
              have : (i == P (D - 1)) = false := beq_eq_false_iff_ne.mpr (fun e => by rw [e, y2] at q; cases q)
              rw [this]
              cases decide (n ≤ lapS c (P (D - 1) : Int) (i : Int)) <;> rfl
        left
        by_cases hb : inB f u i = true
        · -- the search goes on behind it
          obtain ⟨n1, n2⟩ := inB_t hb
          have D7 : D < 8 := by
            have h1 := bcu_or (show i < 8 by omega) n2
            have h2 := bcu_le (u ||| 2 ^ i)
            omega
          have rr : rg (i : Int) := by unfold rg; omega
          have qs : QM X t (sA t (X + 121 + 11) (D : Int) (i : Int)) := q_sA t (by unfold sc; omega)
          have k11 := mt.k11
          have e6 : WE ((D : Int) + 1) := we (by omega) (by omega)
          have Gs : CM (sA t (X + 121 + 11) (D : Int) (i : Int)) X c := G.q (p1.1.tr qs)
          have or8 := or2_lt u8 (show i < 8 by omega)
          obtain ⟨t', ⟨y1, y2⟩, y3⟩ := ih (sA t (X + 121 + 11) (D : Int) (i : Int)) (D + 1) (u ||| 2 ^ i) (lkS c n i) (fun k => if k = D then i else P k) Gs (by omega) (by omega) or8 (su.or (by rw [alA_tb]; exact decide_eq_true hi)) (by rw [bcu_or (by omega) n2, bu]) (fun k hk => by
            rw [gA_sA]
            by_cases y : k = D
            · rw [if_pos ⟨rfl, by omega⟩, w32_of rr]
              show (i : Int) = ((if k = D then i else P k : Nat) : Int)
              rw [if_pos y]
            · rw [if_neg (fun zz => y (by have := zz.2; omega))]
              show _ = ((if k = D then i else P k : Nat) : Int)
              rw [if_neg y]
              exact tP k (by omega)) (by
                rw [if_neg (by omega)]
                show lkS c n i = lkS c n (if D + 1 - 1 = D then i else P (D + 1 - 1))
                rw [if_pos (by omega)]) (fun _ => by
                show (if D + 1 - 1 = D then i else P (D + 1 - 1)) < (c 2).toNat ∧ (u ||| 2 ^ i).testBit (if D + 1 - 1 = D then i else P (D + 1 - 1)) = true
                rw [if_pos (by omega)]
                exact ⟨hi, by rw [or2_tb]; simp⟩)
          have cq : ChQ h t' X D := by
            refine ⟨(p1.1.tr qs).tr y1.1, (y1.2.1.trans rfl).trans p1.2.1, fun k hk => ?_⟩
            rw [y1.2.2 k (by omega), gA_sA, if_neg (fun zz => by have := zz.2; omega)]
            exact p1.2.2 k hk
          have mW : mz 8 (chV (lkS c n) (u ||| 2 ^ i) (lkS c n i)) = chM (lkS c n) (u ||| 2 ^ i) (lkS c n i) := (chM_eq (lkS_ok w n i).1).symm
          have cW : chW (lkS c n) u i = 1 + chM (lkS c n) (u ||| 2 ^ i) (lkS c n i) := rfl
          have em : mz (i + 1) (chV (lkS c n) u f) = max (mz i (chV (lkS c n) u f)) (chW (lkS c n) u i) := by
            show max (mz i (chV (lkS c n) u f)) (chV (lkS c n) u f i) = _
            rw [chV_in hb]
          have m0 := (mz_ge (n := i) (f := chV (lkS c n) u f)).1
          have wb := chW_bd (lkS c n) u i
          have s799 : gI (sA t (X + 121 + 11) (D : Int) (i : Int)) 799 (X + 121) = gI t 799 (X + 121) := rfl
          have s12 : ∀ k, gA (sA t (X + 121 + 11) (D : Int) (i : Int)) (X + 121 + 12) k = gA t (X + 121 + 12) k := fun k => by rw [gA_sA, if_neg (by omega)]
          have na : ChA h t' X (lkS c n) P D u f (i + 1) := by
            unfold ChA at p2 y2 ⊢
            rw [mW, s799] at y2
            rw [em]
            by_cases z0 : gI h 799 (X + 121) < (D : Int) + mz i (chV (lkS c n) u f)
            · obtain ⟨z1, z2, z3⟩ := p2.1 z0
              by_cases z4 : mz i (chV (lkS c n) u f) < chW (lkS c n) u i
              · have e9 : max (mz i (chV (lkS c n) u f)) (chW (lkS c n) u i) = chW (lkS c n) u i := imxR (Int.le_of_lt z4)
                rw [e9]
                obtain ⟨a1, a2, a3⟩ := y2.1 (by omega)
                refine ⟨fun _ => ⟨by omega, fun k hk => ?_, fun _ => ⟨i, fst_yes hb z4, ?_, fun k hk => ?_⟩⟩, fun z => absurd z (by omega)⟩
                · have := a2 k (by omega)
                  rw [this]
                  show ((if k = D then i else P k : Nat) : Int) = _
                  rw [if_neg (by omega)]
                · have := a2 D (by omega)
                  rw [this]
                  show ((if D = D then i else P D : Nat) : Int) = _
                  rw [if_pos rfl]
                · obtain ⟨j, j1, j2, j3⟩ := a3 (by omega)
                  have ej : chB (lkS c n) (u ||| 2 ^ i) (lkS c n i) = j := chB_of (lkS_ok w n i).1 j1
                  cases k with
                  | zero => rw [Nat.add_zero, j2]; show (j : Int) = ((chB (lkS c n) (u ||| 2 ^ i) (lkS c n i) : Nat) : Int); rw [ej]
                  | succ k =>
                    have := j3 k (by omega)
                    rw [show D + 1 + (k + 1) = D + 1 + 1 + k by omega, this]
                    show _ = ((chK (lkS c n) k ((u ||| 2 ^ i) ||| 2 ^ chB (lkS c n) (u ||| 2 ^ i) (lkS c n i)) (lkS c n (chB (lkS c n) (u ||| 2 ^ i) (lkS c n i))) : Nat) : Int)
                    rw [ej]
              · have e9 : max (mz i (chV (lkS c n) u f)) (chW (lkS c n) u i) = mz i (chV (lkS c n) u f) := imxL (Int.not_lt.mp z4)
                rw [e9]
                obtain ⟨a1, a2⟩ := y2.2 (by omega)
                refine ⟨fun _ => ⟨by omega, fun k hk => ?_, fun z5 => ?_⟩, fun z => absurd z0 z⟩
                · rw [a2 k, s12]; exact z2 k hk
                · obtain ⟨j, j1, j2, j3⟩ := z3 z5
                  exact ⟨j, fst_no j1 (by rw [chV_in hb]; omega), by rw [a2, s12]; exact j2, fun k hk => by rw [a2, s12]; exact j3 k hk⟩
            · obtain ⟨z1, z2⟩ := p2.2 z0
              by_cases z4 : gI h 799 (X + 121) < (D : Int) + chW (lkS c n) u i
              · have e9 : max (mz i (chV (lkS c n) u f)) (chW (lkS c n) u i) = chW (lkS c n) u i := imxR (lt_sum z0 z4)
                rw [e9]
                obtain ⟨a1, a2, a3⟩ := y2.1 (by omega)
                refine ⟨fun _ => ⟨by omega, fun k hk => ?_, fun _ => ⟨i, fst_yes hb (by omega), ?_, fun k hk => ?_⟩⟩, fun z => absurd z4 z⟩
                · have := a2 k (by omega)
                  rw [this]
                  show ((if k = D then i else P k : Nat) : Int) = _
                  rw [if_neg (by omega)]
                · have := a2 D (by omega)
                  rw [this]
                  show ((if D = D then i else P D : Nat) : Int) = _
                  rw [if_pos rfl]
                · obtain ⟨j, j1, j2, j3⟩ := a3 (by omega)
                  have ej : chB (lkS c n) (u ||| 2 ^ i) (lkS c n i) = j := chB_of (lkS_ok w n i).1 j1
                  cases k with
                  | zero => rw [Nat.add_zero, j2]; show (j : Int) = ((chB (lkS c n) (u ||| 2 ^ i) (lkS c n i) : Nat) : Int); rw [ej]
                  | succ k =>
                    have := j3 k (by omega)
                    rw [show D + 1 + (k + 1) = D + 1 + 1 + k by omega, this]
                    show _ = ((chK (lkS c n) k ((u ||| 2 ^ i) ||| 2 ^ chB (lkS c n) (u ||| 2 ^ i) (lkS c n i)) (lkS c n (chB (lkS c n) (u ||| 2 ^ i) (lkS c n i))) : Nat) : Int)
                    rw [ej]
              · obtain ⟨a1, a2⟩ := y2.2 (by omega)
                refine ⟨fun z => absurd z (by omega), fun _ => ⟨by omega, fun k => by rw [a2, s12]; exact z2 k⟩⟩
          refine ⟨t', ⟨cq, na⟩, ?_⟩
          have b90 : fX12_chainFrom_b90 (X + 121) (fun h a1 a2 a3 => fX12_chainFrom d h (X + 121) a1 a2 a3) (D : Int) (u : Int) n (fX12_chainFrom_b45 (X + 121) (fun h a1 a2 a3 => fX12_chainFrom d h (X + 121) a1 a2 a3) (D : Int) (u : Int) n fu) t (i : Int) = fX12_chainFrom_b45 (X + 121) (fun h a1 a2 a3 => fX12_chainFrom d h (X + 121) a1 a2 a3) (D : Int) (u : Int) n fu t' ((i : Int) + 1) := by
            rw [fX12_chainFrom_b90]
            refine gdg mt.k (nng mt.r796 (gdg (by rw [k11]) (gdg (by rw [k11]; show 0 ≤ _ ∧ _ < (8 : Int); omega) ?_)))
            rw [lt_d, e6.e, bor_or u8 (by omega)]
            exact bdg y3 (e112 _)
          have ub : u.testBit i = false := n2
          show fX12_chainFrom_b45 (X + 121) (fun h a1 a2 a3 => fX12_chainFrom d h (X + 121) a1 a2 a3) (D : Int) (u : Int) n (fu + 1) t (i : Int) = _
          rw [fX12_chainFrom_b45.eq_2]
          refine gdg mt.k (nng mt.r788 (gdg (by rw [mt.k5]) (gdg l2 ?_)))
          rw [hc, show ((2 : Int)).toNat = 2 from rfl, head]
          rw [ub] at ib
          refine bdg ib (iteT rfl ?_)
          by_cases y : D = 0
          · exact iteF (by omega) b90
          · have ew : WE ((D : Int) - 1) := we (by omega) (by omega)
            rw [ub, decide_eq_false y, Bool.false_or, hb] at cand
            have cd : n ≤ lapS c (P (D - 1) : Int) (i : Int) := by
              cases q : decide (n ≤ lapS c (P (D - 1) : Int) (i : Int)) with
              | true => exact of_decide_eq_true q
              | false => rw [q] at cand; cases cand
            rw [ew.e]
            have PD := (hl (by omega)).1
            refine iteT (by omega) (nng mt.r796 (gdg (by rw [k11]) (gdg (by rw [k11]; show 0 ≤ _ ∧ _ < (8 : Int); omega) (gdg mt.k5 ?_))))
            rw [show ((D : Int) - 1).toNat = D - 1 by omega, tP (D - 1) (by omega)]
            exact bdg (rLap w (by omega) (by omega) (by omega) (by omega)) (iteF (by omega) b90)
        · have hb : inB f u i = false := by simpa using hb
          refine ⟨t, ⟨p1, skip hb⟩, ?_⟩
          show fX12_chainFrom_b45 (X + 121) (fun h a1 a2 a3 => fX12_chainFrom d h (X + 121) a1 a2 a3) (D : Int) (u : Int) n (fu + 1) t (i : Int) = _
          rw [fX12_chainFrom_b45.eq_2]
          refine gdg mt.k (nng mt.r788 (gdg (by rw [mt.k5]) (gdg l2 ?_)))
          rw [hc, show ((2 : Int)).toNat = 2 from rfl, head]
          rw [hb] at cand
          cases ub : u.testBit i with
          | true =>
            rw [ub] at ib
            exact bdg ib (iteF (by unfold b01; rw [if_pos rfl]; omega) (e112 _))
          | false =>
            rw [ub] at ib cand
            refine bdg ib (iteT rfl ?_)
            have y : D ≠ 0 := fun y => by rw [decide_eq_true y] at cand; cases cand
            have cd : ¬ n ≤ lapS c (P (D - 1) : Int) (i : Int) := fun z => by rw [decide_eq_true z, Bool.or_true] at cand; cases cand
            have ew : WE ((D : Int) - 1) := we (by omega) (by omega)
            rw [ew.e]
            have PD := (hl (by omega)).1
            have k11 := mt.k11
            refine iteT (by omega) (nng mt.r796 (gdg (by rw [k11]) (gdg (by rw [k11]; show 0 ≤ _ ∧ _ < (8 : Int); omega) (gdg mt.k5 ?_))))
            rw [show ((D : Int) - 1).toNat = D - 1 by omega, tP (D - 1) (by omega)]
            exact bdg (rLap w (by omega) (by omega) (by omega) (by omega)) (iteT (by omega) (e112 _)))
      (fun fu t hI => by
        obtain ⟨p1, p2⟩ := hI
        obtain ⟨mt, hc, -⟩ := G.q p1.1
        have l2 : inA 2 (hK t (X + 121 + 5)).2 := by rw [mt.k5]; show 0 ≤ (2 : Int) ∧ (2 : Int) < 1850; omega
        have out : ∀ k, (c 2).toNat ≤ k → inB f u k = false := fun k hk => by
          unfold inB
          cases q : f.testBit k with
          | false => rfl
          | true =>
            have := fA k q
            rw [alA_tb] at this
            have := of_decide_eq_true this
            omega
        have go : ∀ m, (c 2).toNat + m ≤ 8 → ChA h t X (lkS c n) P D u f ((c 2).toNat + m) := by
          intro m
          induction m with
          | zero => intro _; exact p2
          | succ m ihm =>
            intro hm
            have p3 := ihm (by omega)
            have hb := out ((c 2).toNat + m) (by omega)
            have m0 := (mz_ge (n := (c 2).toNat + m) (f := chV (lkS c n) u f)).1
            have em : mz ((c 2).toNat + (m + 1)) (chV (lkS c n) u f) = mz ((c 2).toNat + m) (chV (lkS c n) u f) := by
              show max (mz ((c 2).toNat + m) (chV (lkS c n) u f)) (chV (lkS c n) u f ((c 2).toNat + m)) = _
              rw [chV_out hb]; omega
            unfold ChA at p3 ⊢
            rw [em]
            refine ⟨fun z => ?_, p3.2⟩
            obtain ⟨z1, z2, z3⟩ := p3.1 z
            refine ⟨z1, z2, fun z4 => ?_⟩
            obtain ⟨j, j1, j2, j3⟩ := z3 z4
            exact ⟨j, fst_no j1 (Int.le_trans (Int.le_of_eq (chV_out hb)) m0), j2, j3⟩
        have p8 := go (8 - (c 2).toNat) (by omega)
        rw [show (c 2).toNat + (8 - (c 2).toNat) = 8 by omega] at p8
        refine ⟨t, ⟨p1, p8⟩, ?_⟩
        show fX12_chainFrom_b45 (X + 121) (fun h a1 a2 a3 => fX12_chainFrom d h (X + 121) a1 a2 a3) (D : Int) (u : Int) n (fu + 1) t ((c 2).toNat : Int) = _
        rw [fX12_chainFrom_b45.eq_2]
        refine gdg mt.k (nng mt.r788 (gdg (by rw [mt.k5]) (gdg l2 ?_)))
        rw [hc, show ((2 : Int)).toNat = 2 from rfl]
        exact iteF (by omega) rfl)
    obtain ⟨t, h1, h2⟩ := key
    refine ⟨t, h1, ?_⟩
    show fX12_chainFrom_body (X + 121) (fun h a1 a2 a3 => fX12_chainFrom d h (X + 121) a1 a2 a3) h (D : Int) (u : Int) n = some t
    rw [e0]
    exact h2
